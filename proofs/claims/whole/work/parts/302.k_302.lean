theorem kv_X3_44 : KV RX3 44 yX3_friendsOfAll cX3_friendsOfAll 4 (some .int) 1 := KV.mk q1285 q1287 qs38 q4 q1288 ⟨by decide, by decide, by decide +kernel⟩
def f_X3_stepsBetween_L7 (l2 : Int32) (z0 : Ob) : Nat → Int32 → Int32 → Option (Int32)
  | 0, _, _ => none
  | n + 1, l3, l4 => (if (12 : Int32) ≤ l4 then some ((-1 : Int32)) else (if ((l3 >>> (l2 &&& 31)) &&& (1 : Int32)) = 0 then (f_X3_friendsOfAll z0 l3).bind (fun q4 => bnd (l3 ||| q4) (fun x5 => bnd (l4 + 1) (fun x6 => f_X3_stepsBetween_L7 l2 z0 n x5 x6))) else some (l4)))
def f_X3_stepsBetween (v : Ob) (p0 : Int32) (p1 : Int32) : Option (Int32) := bnd ((1 : Int32) <<< (p0 &&& 31)) (fun x1 => f_X3_stepsBetween_L7 p1 v FUEL x1 (0 : Int32))
set_option maxRecDepth 20000 in
theorem w_X3_stepsBetween_L7 {p : Program} {l : Launch} {e : Env} {s : State} {m : MethodId} {args : Array Value} {below : List Frame} {meth : Method} {c : Code} {D : va_G} {A : Nat → Prop} {dT : Nat → ClassId} {a : Nat → Nat} {res : Int32} {l2 : Int32} {z0 : Ob} (C : Cx p s m args meth c cX3_stepsBetween 5 RX3 (some .int) D A dT) : ∀ (n : Nat) (l3 : Int32) (l4 : Int32), f_X3_stepsBetween_L7 l2 z0 n l3 l4 = some res → WA p l e ({ frames := 1, cells := 0, slots := 0, locals := 23 } : Room) s m args below meth c (MQ below (QI D dT A ([wF dT a z0]) res) args s 0 0 A) D A 0 0 5 7 ([wF dT a z0]) [(0, .ref (a 0)), (2, .int l2), (3, .int l3), (4, .int l4)] [] := by
  intro n
  induction n with
  | zero => intro l3 l4 hf; cases hf
  | succ n ih =>
    intro l3 l4 hf
    unfold f_X3_stepsBetween_L7 at hf
    refine wa_iload C 3 9 dX3_stepsBetween_7 rfl rfl ?_
    refine wa_bipush (v := 12) C 11 dX3_stepsBetween_9 rfl rfl ?_
    refine wa_icmp_ge C 39 14 dX3_stepsBetween_11 rfl rfl (fun c2 => ?_) (fun c2 => ?_)
    · replace hf := ite_t hf c2
      refine wa_iconst (v := (-1)) C 40 dX3_stepsBetween_39 rfl rfl ?_
      cases hf
      exact wa_iret C dX3_stepsBetween_40 rfl rfl
    · replace hf := ite_f hf c2
      refine wa_iload_n C 2 15 dX3_stepsBetween_14 rfl rfl ?_
      refine wa_iload_n C 1 16 dX3_stepsBetween_15 rfl rfl ?_
      refine wa_ishr C 17 dX3_stepsBetween_16 rfl ?_
      refine wa_iconst (v := 1) C 18 dX3_stepsBetween_17 rfl rfl ?_
      refine wa_iand C 19 dX3_stepsBetween_18 rfl ?_
      refine wa_if_eq C 25 22 dX3_stepsBetween_19 rfl rfl (fun c3 => ?_) (fun c3 => ?_)
      · replace hf := ite_t hf c3
        refine wa_iload_n C 2 26 dX3_stepsBetween_25 rfl rfl ?_
        refine wa_aload_n C 0 27 dX3_stepsBetween_26 rfl rfl ?_
        refine wa_iload_n C 2 28 dX3_stepsBetween_27 rfl rfl ?_
        obtain ⟨q4, hq4, hf⟩ := bind_ex hf
        refine wa_callVAi (b1 := 0) (q1 := 0) (ci := 3) (As := [.int l3]) C 31 dX3_stepsBetween_28 rfl kv_X3_44 (c_X3_friendsOfAll hq4) ⟨rfl, rfl⟩ ⟨Nat.le_of_ble_eq_true rfl, Nat.le_of_ble_eq_true rfl⟩ rfl rfl rfl rfl rfl ⟨Nat.zero_le _, Nat.zero_le _⟩ (Nat.le_of_ble_eq_true rfl) ?_
        refine wa_ior C 32 dX3_stepsBetween_31 rfl ?_
        obtain ⟨x5, ex5, hf⟩ := bnd_ex hf
        refine wa_topi ex5 ?_
        refine wa_istore_n (lv' := [(0, .ref (a 0)), (2, .int l2), (3, .int x5), (4, .int l4)]) C [1, 2, 0, 3] 33 dX3_stepsBetween_32 rfl (Nat.le_of_ble_eq_true rfl) rfl ?_
        obtain ⟨x6, ex6, hf⟩ := bnd_ex hf
        refine wa_iinc (v := x6) (lv' := [(0, .ref (a 0)), (2, .int l2), (3, .int x5), (4, .int x6)]) C 3 [1, 2, 3, 0] 36 dX3_stepsBetween_33 rfl rfl (by rw [ex6]; rfl) (Nat.le_of_ble_eq_true rfl) rfl ?_
        refine wa_goto C 7 dX3_stepsBetween_36 rfl ?_
        exact ih x5 x6 hf
      · replace hf := ite_f hf c3
        refine wa_iload C 3 24 dX3_stepsBetween_22 rfl rfl ?_
        cases hf
        exact wa_iret C dX3_stepsBetween_24 rfl rfl
set_option maxRecDepth 20000 in
theorem c_X3_stepsBetween {l : Launch} {D : va_G} {dT : Nat → ClassId} {a : Nat → Nat} {v : Ob} {p0 : Int32} {p1 : Int32} {res : Int32} (hf : f_X3_stepsBetween v p0 p1 = some res) : CTi l yX3_stepsBetween cX3_stepsBetween 5 (some .int) ({ frames := 1, cells := 0, slots := 0, locals := 23 } : Room) D dT [.ref (a 0), .int p0, .int p1] ([wF dT a v]) ([wF dT a v]) res := by
  refine CTi.of (by decide) (Nat.le_of_ble_eq_true rfl) rfl ?_
  intro p e s m args below meth c A C
  unfold f_X3_stepsBetween at hf
  refine wa_iconst (v := 1) C 1 dX3_stepsBetween_0 rfl rfl ?_
  refine wa_iload_n C 1 2 dX3_stepsBetween_1 rfl rfl ?_
  refine wa_ishl C 3 dX3_stepsBetween_2 rfl ?_
  obtain ⟨x1, ex1, hf⟩ := bnd_ex hf
  refine wa_topi ex1 ?_
  refine wa_istore_n (lv' := [(0, .ref (a 0)), (1, .int p0), (2, .int p1), (3, .int x1)]) C [1, 2, 3, 0] 4 dX3_stepsBetween_3 rfl (Nat.le_of_ble_eq_true rfl) rfl ?_
  refine wa_iconst (v := 0) C 5 dX3_stepsBetween_4 rfl rfl ?_
  refine wa_istore (lv' := [(0, .ref (a 0)), (1, .int p0), (2, .int p1), (3, .int x1), (4, .int (0 : Int32))]) C [1, 2, 3, 4, 0] 7 dX3_stepsBetween_5 rfl (Nat.le_of_ble_eq_true rfl) rfl ?_
  refine wa_lv (lv' := [(0, .ref (a 0)), (2, .int p1), (3, .int x1), (4, .int (0 : Int32))]) [0, 2, 3, 4] rfl ?_
  exact w_X3_stepsBetween_L7 C FUEL x1 (0 : Int32) hf
def f_J7_fill_53178_L5 (n0 : Nat) (l1 : Int32) (l3 : Int32) : Nat → Int32 → (Nat → Int32) → Option ((Nat → Int32))
  | 0, _, _ => none
  | n + 1, l2, z0 => (if l3 ≤ l2 then some (z0) else grd (vi l2 n0) (bnd (upd z0 (l2).toNatClampNeg l1) (fun y4 => bnd (l2 + 1) (fun x5 => f_J7_fill_53178_L5 n0 l1 l3 n x5 y4))))
def f_J7_fill_53178 (u0 : (Nat → Int32)) (n0 : Nat) (p1 : Int32) : Option ((Nat → Int32)) := bnd (Int32.ofNat n0) (fun x1 => f_J7_fill_53178_L5 n0 p1 x1 FUEL (0 : Int32) u0)
set_option maxRecDepth 20000 in
theorem w_J7_fill_53178_L5 {p : Program} {l : Launch} {e : Env} {s : State} {m : MethodId} {args : Array Value} {below : List Frame} {meth : Method} {c : Code} {D : va_G} {A : Nat → Prop} {dT : Nat → ClassId} {b0 : Nat} {n0 : Nat} {res : (Nat → Int32)} {l1 : Int32} {l3 : Int32} (C : Cx p s m args meth c cJ7_fill_53178 4 RJ7 none D A dT) : ∀ (n : Nat) (l2 : Int32) (z0 : (Nat → Int32)), f_J7_fill_53178_L5 n0 l1 l3 n l2 z0 = some res → WA p l e ({ frames := 0, cells := 0, slots := 0, locals := 0 } : Room) s m args below meth c (MQ below (QV D dT A ([[(b0, .inl (dT 0, n0, .inl res))]])) args s 0 0 A) D A 0 0 4 5 ([[(b0, .inl (dT 0, n0, .inl z0))]]) [(0, .ref b0), (1, .int l1), (2, .int l2), (3, .int l3)] [] := by
  intro n
  induction n with
  | zero => intro l2 z0 hf; cases hf
  | succ n ih =>
    intro l2 z0 hf
    unfold f_J7_fill_53178_L5 at hf
    refine wa_iload_n C 2 6 dJ7_fill_53178_5 rfl rfl ?_
    refine wa_iload_n C 3 7 dJ7_fill_53178_6 rfl rfl ?_
    refine wa_icmp_ge C 20 10 dJ7_fill_53178_7 rfl rfl (fun c2 => ?_) (fun c2 => ?_)
    · replace hf := ite_t hf c2
      cases hf
      exact wa_vret C dJ7_fill_53178_20 rfl
    · replace hf := ite_f hf c2
      refine wa_aload_n C 0 11 dJ7_fill_53178_10 rfl rfl ?_
      refine wa_iload_n C 2 12 dJ7_fill_53178_11 rfl rfl ?_
      refine wa_iload_n C 1 13 dJ7_fill_53178_12 rfl rfl ?_
      obtain ⟨g3, hf⟩ := grd_ex hf
      obtain ⟨y4, ey4, hf⟩ := bnd_ex hf
      refine wa_iast (ws' := [[(b0, .inl (dT 0, n0, .inl y4))]]) C 14 0 0 dJ7_fill_53178_13 rfl rfl rfl (vi_in g3) (by rw [ey4]; rfl) ?_
      obtain ⟨x5, ex5, hf⟩ := bnd_ex hf
      refine wa_iinc (v := x5) (lv' := [(0, .ref b0), (1, .int l1), (2, .int x5), (3, .int l3)]) C 2 [1, 2, 0, 3] 17 dJ7_fill_53178_14 rfl rfl (by rw [ex5]; rfl) (Nat.le_of_ble_eq_true rfl) rfl ?_
      refine wa_goto C 5 dJ7_fill_53178_17 rfl ?_
      exact ih x5 y4 hf
set_option maxRecDepth 20000 in
theorem c_J7_fill_53178 {l : Launch} {D : va_G} {dT : Nat → ClassId} {b0 : Nat} {n0 : Nat} {u0 : (Nat → Int32)} {p1 : Int32} {res : (Nat → Int32)} (hf : f_J7_fill_53178 u0 n0 p1 = some res) : CTv l yJ7_fill_53178 cJ7_fill_53178 4 none ({ frames := 0, cells := 0, slots := 0, locals := 0 } : Room) D dT [.ref b0, .int p1] ([[(b0, .inl (dT 0, n0, .inl u0))]]) ([[(b0, .inl (dT 0, n0, .inl res))]]) := by
  refine CTv.of (by decide) (Nat.le_of_ble_eq_true rfl) rfl ?_
  intro p e s m args below meth c A C
  unfold f_J7_fill_53178 at hf
  refine wa_iconst (v := 0) C 1 dJ7_fill_53178_0 rfl rfl ?_
  refine wa_istore_n (lv' := [(0, .ref b0), (1, .int p1), (2, .int (0 : Int32))]) C [1, 2, 0] 2 dJ7_fill_53178_1 rfl (Nat.le_of_ble_eq_true rfl) rfl ?_
  refine wa_aload_n C 0 3 dJ7_fill_53178_2 rfl rfl ?_
  refine wa_alen (v := (Int32.ofNat n0)) C 4 0 0 0 dJ7_fill_53178_3 rfl rfl rfl rfl rfl ?_
  obtain ⟨x1, ex1, hf⟩ := bnd_ex hf
  refine wa_topi ex1 ?_
  refine wa_istore_n (lv' := [(0, .ref b0), (1, .int p1), (2, .int (0 : Int32)), (3, .int x1)]) C [1, 2, 3, 0] 5 dJ7_fill_53178_4 rfl (Nat.le_of_ble_eq_true rfl) rfl ?_
  exact w_J7_fill_53178_L5 C FUEL (0 : Int32) u0 hf
theorem ks_X4_18 : KS RX4 18 yJ7_fill_53178 cJ7_fill_53178 4 none 2 := KS.mk q559 q472 q27 q473 ⟨by decide, by decide, by decide +kernel⟩
def f_X4_clear (v : Ob) : Option (Ob) := (f_J7_fill_53178 (v.2 1) 12 (0 : Int32)).bind (fun q1 => bnd (v.1, sA v.2 1 q1) (fun y2 => some (y2)))
set_option maxRecDepth 20000 in
theorem c_X4_clear {l : Launch} {D : va_G} {dT : Nat → ClassId} {a : Nat → Nat} {v : Ob} {res : Ob} (hf : f_X4_clear v = some res) : CTv l yX4_clear cX4_clear 1 none ({ frames := 1, cells := 0, slots := 0, locals := 23 } : Room) D dT [.ref (a 0)] ([wK dT a v]) ([wK dT a res]) := by
  refine CTv.of (by decide) (Nat.le_of_ble_eq_true rfl) rfl ?_
  intro p e s m args below meth c A C
  unfold f_X4_clear at hf
  refine wa_aload_n C 0 1 dX4_clear_0 rfl rfl ?_
  refine wa_get C 4 0 0 0 dX4_clear_1 rfl iX4 q242 rfl (Nat.le_of_ble_eq_true rfl) rfl rfl rfl ?_
  refine wa_iconst (v := 0) C 5 dX4_clear_4 rfl rfl ?_
  refine wa_open 0 1 rfl rfl ?_
  obtain ⟨q1, hq1, hf⟩ := bind_ex hf
  obtain ⟨y2, ey2, hf⟩ := bnd_ex hf
  refine wa_callSv (ws' := [(wK dT a v).eraseIdx 1, [(a 1, .inl (dT 0, 12, .inl q1))]]) (As := [.ref (a 1), .int (0 : Int32)]) C 8 dX4_clear_5 rfl ks_X4_18 (c_J7_fill_53178 hq1) ⟨rfl, rfl⟩ ⟨Nat.le_of_ble_eq_true rfl, Nat.le_of_ble_eq_true rfl⟩ [1] [0] [0, 1] rfl rfl rfl rfl (by decide) rfl rfl rfl rfl ⟨Nat.zero_le _, Nat.zero_le _⟩ (Nat.le_of_ble_eq_true rfl) ?_
  refine wa_close (ws := [(wK dT a v).eraseIdx 1]) (ws' := [wK dT a y2]) 0 1 (wK dT a y2) (by rw [ey2]; rfl) (by rw [ey2]; rfl) rfl ?_
  cases hf
  exact wa_vret C dX4_clear_8 rfl
def f_X4_liveTogether_L43 (z1 : Ob) : Nat → Int32 → Ob → Option (Ob)
  | 0, _, _ => none
  | n + 1, l2, z0 => (if (z1.1 0) ≤ l2 then some (z0) else grd (vi l2 12) (grd (vi l2 12) (grd (vi (z1.2 2 (l2).toNatClampNeg) 13) (grd (vi l2 12) (bnd (z0.1, uA z0.2 1 (l2).toNatClampNeg ((z0.2 1 (l2).toNatClampNeg) ||| (z0.2 2 ((z1.2 2 (l2).toNatClampNeg)).toNatClampNeg))) (fun y9 => bnd (l2 + 1) (fun x10 => f_X4_liveTogether_L43 z1 n x10 y9)))))))
def f_X4_liveTogether_L10 (z1 : Ob) : Nat → Int32 → Ob → Option (Ob)
  | 0, _, _ => none
  | n + 1, l2, z0 => (if (z1.1 0) ≤ l2 then f_X4_liveTogether_L43 z1 FUEL (0 : Int32) z0 else grd (vi l2 12) (grd (vi (z1.2 2 (l2).toNatClampNeg) 13) (grd (vi (z1.2 2 (l2).toNatClampNeg) 13) (bnd (z0.1, uA z0.2 2 ((z1.2 2 (l2).toNatClampNeg)).toNatClampNeg ((z0.2 2 ((z1.2 2 (l2).toNatClampNeg)).toNatClampNeg) ||| ((1 : Int32) <<< (l2 &&& 31)))) (fun y14 => bnd (l2 + 1) (fun x15 => f_X4_liveTogether_L10 z1 n x15 y14))))))
def f_X4_liveTogether (v : Ob) (v0 : Ob) : Option (Ob) := (f_J7_fill_53178 (v.2 2) 13 (0 : Int32)).bind (fun q1 => bnd (v.1, sA v.2 2 q1) (fun y2 => f_X4_liveTogether_L10 v0 FUEL (0 : Int32) y2))
set_option maxRecDepth 20000 in
theorem w_X4_liveTogether_L43 {p : Program} {l : Launch} {e : Env} {s : State} {m : MethodId} {args : Array Value} {below : List Frame} {meth : Method} {c : Code} {D : va_G} {A : Nat → Prop} {dT : Nat → ClassId} {a : Nat → Nat} {a0 : Nat → Nat} {res : Ob} {z1 : Ob} (C : Cx p s m args meth c cX4_liveTogether 3 RX4 none D A dT) : ∀ (n : Nat) (l2 : Int32) (z0 : Ob), f_X4_liveTogether_L43 z1 n l2 z0 = some res → WA p l e ({ frames := 1, cells := 0, slots := 0, locals := 23 } : Room) s m args below meth c (MQ below (QV D dT A ([wK dT a res, wV dT a0 z1])) args s 0 0 A) D A 0 0 3 43 ([wK dT a z0, wV dT a0 z1]) [(0, .ref (a 0)), (1, .ref (a0 0)), (2, .int l2)] [] := by
  intro n
  induction n with
  | zero => intro l2 z0 hf; cases hf
  | succ n ih =>
    intro l2 z0 hf
    unfold f_X4_liveTogether_L43 at hf
    refine wa_iload_n C 2 44 dX4_liveTogether_43 rfl rfl ?_
    refine wa_aload_n C 1 45 dX4_liveTogether_44 rfl rfl ?_
    refine wa_get C 48 1 0 0 dX4_liveTogether_45 rfl iX10 q50 rfl (Nat.le_of_ble_eq_true rfl) rfl rfl rfl ?_
    refine wa_icmp_ge C 77 51 dX4_liveTogether_48 rfl rfl (fun c4 => ?_) (fun c4 => ?_)
    · replace hf := ite_t hf c4
      cases hf
      exact wa_vret C dX4_liveTogether_77 rfl
    · replace hf := ite_f hf c4
      refine wa_aload_n C 0 52 dX4_liveTogether_51 rfl rfl ?_
      refine wa_get C 55 0 0 0 dX4_liveTogether_52 rfl iX4 q242 rfl (Nat.le_of_ble_eq_true rfl) rfl rfl rfl ?_
      refine wa_iload_n C 2 56 dX4_liveTogether_55 rfl rfl ?_
      refine wa_dup2 C 57 dX4_liveTogether_56 rfl rfl rfl ?_
      obtain ⟨g5, hf⟩ := grd_ex hf
      refine wa_iald C 58 0 1 dX4_liveTogether_57 rfl rfl rfl (vi_in g5) ?_
      refine wa_aload_n C 0 59 dX4_liveTogether_58 rfl rfl ?_
      refine wa_get C 62 0 0 1 dX4_liveTogether_59 rfl iX4 q243 rfl (Nat.le_of_ble_eq_true rfl) rfl rfl rfl ?_
      refine wa_aload_n C 1 63 dX4_liveTogether_62 rfl rfl ?_
      refine wa_get C 66 1 0 4 dX4_liveTogether_63 rfl iX10 q72 rfl (Nat.le_of_ble_eq_true rfl) rfl rfl rfl ?_
      refine wa_iload_n C 2 67 dX4_liveTogether_66 rfl rfl ?_
      obtain ⟨g6, hf⟩ := grd_ex hf
      refine wa_iald C 68 1 2 dX4_liveTogether_67 rfl rfl rfl (vi_in g6) ?_
      obtain ⟨g7, hf⟩ := grd_ex hf
      refine wa_iald C 69 0 2 dX4_liveTogether_68 rfl rfl rfl (vi_in g7) ?_
      refine wa_ior C 70 dX4_liveTogether_69 rfl ?_
      obtain ⟨g8, hf⟩ := grd_ex hf
      obtain ⟨y9, ey9, hf⟩ := bnd_ex hf
      refine wa_iast (ws' := [wK dT a y9, wV dT a0 z1]) C 71 0 1 dX4_liveTogether_70 rfl rfl rfl (vi_in g8) (by rw [ey9]; rfl) ?_
      obtain ⟨x10, ex10, hf⟩ := bnd_ex hf
      refine wa_iinc (v := x10) (lv' := [(0, .ref (a 0)), (1, .ref (a0 0)), (2, .int x10)]) C 2 [1, 2, 0] 74 dX4_liveTogether_71 rfl rfl (by rw [ex10]; rfl) (Nat.le_of_ble_eq_true rfl) rfl ?_
      refine wa_goto C 43 dX4_liveTogether_74 rfl ?_
      exact ih x10 y9 hf
set_option maxRecDepth 20000 in
theorem w_X4_liveTogether_L10 {p : Program} {l : Launch} {e : Env} {s : State} {m : MethodId} {args : Array Value} {below : List Frame} {meth : Method} {c : Code} {D : va_G} {A : Nat → Prop} {dT : Nat → ClassId} {a : Nat → Nat} {a0 : Nat → Nat} {res : Ob} {z1 : Ob} (C : Cx p s m args meth c cX4_liveTogether 3 RX4 none D A dT) : ∀ (n : Nat) (l2 : Int32) (z0 : Ob), f_X4_liveTogether_L10 z1 n l2 z0 = some res → WA p l e ({ frames := 1, cells := 0, slots := 0, locals := 23 } : Room) s m args below meth c (MQ below (QV D dT A ([wK dT a res, wV dT a0 z1])) args s 0 0 A) D A 0 0 3 10 ([wK dT a z0, wV dT a0 z1]) [(0, .ref (a 0)), (1, .ref (a0 0)), (2, .int l2)] [] := by
  intro n
  induction n with
  | zero => intro l2 z0 hf; cases hf
  | succ n ih =>
    intro l2 z0 hf
    unfold f_X4_liveTogether_L10 at hf
    refine wa_iload_n C 2 11 dX4_liveTogether_10 rfl rfl ?_
    refine wa_aload_n C 1 12 dX4_liveTogether_11 rfl rfl ?_
    refine wa_get C 15 1 0 0 dX4_liveTogether_12 rfl iX10 q50 rfl (Nat.le_of_ble_eq_true rfl) rfl rfl rfl ?_
    refine wa_icmp_ge C 41 18 dX4_liveTogether_15 rfl rfl (fun c3 => ?_) (fun c3 => ?_)
    · replace hf := ite_t hf c3
      refine wa_iconst (v := 0) C 42 dX4_liveTogether_41 rfl rfl ?_
      refine wa_istore_n (lv' := [(0, .ref (a 0)), (1, .ref (a0 0)), (2, .int (0 : Int32))]) C [1, 2, 0] 43 dX4_liveTogether_42 rfl (Nat.le_of_ble_eq_true rfl) rfl ?_
      exact w_X4_liveTogether_L43 C FUEL (0 : Int32) z0 hf
    · replace hf := ite_f hf c3
      refine wa_aload_n C 0 19 dX4_liveTogether_18 rfl rfl ?_
      refine wa_get C 22 0 0 1 dX4_liveTogether_19 rfl iX4 q243 rfl (Nat.le_of_ble_eq_true rfl) rfl rfl rfl ?_
      refine wa_aload_n C 1 23 dX4_liveTogether_22 rfl rfl ?_
      refine wa_get C 26 1 0 4 dX4_liveTogether_23 rfl iX10 q72 rfl (Nat.le_of_ble_eq_true rfl) rfl rfl rfl ?_
      refine wa_iload_n C 2 27 dX4_liveTogether_26 rfl rfl ?_
      obtain ⟨g11, hf⟩ := grd_ex hf
      refine wa_iald C 28 1 2 dX4_liveTogether_27 rfl rfl rfl (vi_in g11) ?_
      refine wa_dup2 C 29 dX4_liveTogether_28 rfl rfl rfl ?_
      obtain ⟨g12, hf⟩ := grd_ex hf
      refine wa_iald C 30 0 2 dX4_liveTogether_29 rfl rfl rfl (vi_in g12) ?_
      refine wa_iconst (v := 1) C 31 dX4_liveTogether_30 rfl rfl ?_
      refine wa_iload_n C 2 32 dX4_liveTogether_31 rfl rfl ?_
      refine wa_ishl C 33 dX4_liveTogether_32 rfl ?_
      refine wa_ior C 34 dX4_liveTogether_33 rfl ?_
      obtain ⟨g13, hf⟩ := grd_ex hf
      obtain ⟨y14, ey14, hf⟩ := bnd_ex hf
      refine wa_iast (ws' := [wK dT a y14, wV dT a0 z1]) C 35 0 2 dX4_liveTogether_34 rfl rfl rfl (vi_in g13) (by rw [ey14]; rfl) ?_
      obtain ⟨x15, ex15, hf⟩ := bnd_ex hf
      refine wa_iinc (v := x15) (lv' := [(0, .ref (a 0)), (1, .ref (a0 0)), (2, .int x15)]) C 2 [1, 2, 0] 38 dX4_liveTogether_35 rfl rfl (by rw [ex15]; rfl) (Nat.le_of_ble_eq_true rfl) rfl ?_
      refine wa_goto C 10 dX4_liveTogether_38 rfl ?_
      exact ih x15 y14 hf
set_option maxRecDepth 20000 in
theorem c_X4_liveTogether {l : Launch} {D : va_G} {dT : Nat → ClassId} {a : Nat → Nat} {a0 : Nat → Nat} {v : Ob} {v0 : Ob} {res : Ob} (hf : f_X4_liveTogether v v0 = some res) : CTv l yX4_liveTogether cX4_liveTogether 3 none ({ frames := 1, cells := 0, slots := 0, locals := 23 } : Room) D dT [.ref (a 0), .ref (a0 0)] ([wK dT a v, wV dT a0 v0]) ([wK dT a res, wV dT a0 v0]) := by
  refine CTv.of (by decide) (Nat.le_of_ble_eq_true rfl) rfl ?_
  intro p e s m args below meth c A C
  unfold f_X4_liveTogether at hf
  refine wa_aload_n C 0 1 dX4_liveTogether_0 rfl rfl ?_
  refine wa_get C 4 0 0 1 dX4_liveTogether_1 rfl iX4 q243 rfl (Nat.le_of_ble_eq_true rfl) rfl rfl rfl ?_
  refine wa_iconst (v := 0) C 5 dX4_liveTogether_4 rfl rfl ?_
  refine wa_open 0 2 rfl rfl ?_
  obtain ⟨q1, hq1, hf⟩ := bind_ex hf
  obtain ⟨y2, ey2, hf⟩ := bnd_ex hf
  refine wa_callSv (ws' := [(wK dT a v).eraseIdx 2, wV dT a0 v0, [(a 2, .inl (dT 0, 13, .inl q1))]]) (As := [.ref (a 2), .int (0 : Int32)]) C 8 dX4_liveTogether_5 rfl ks_X4_18 (c_J7_fill_53178 hq1) ⟨rfl, rfl⟩ ⟨Nat.le_of_ble_eq_true rfl, Nat.le_of_ble_eq_true rfl⟩ [2] [0, 1] [0, 1, 2] rfl rfl rfl rfl (by decide) rfl rfl rfl rfl ⟨Nat.zero_le _, Nat.zero_le _⟩ (Nat.le_of_ble_eq_true rfl) ?_
  refine wa_close (ws := [(wK dT a v).eraseIdx 2, wV dT a0 v0]) (ws' := [wK dT a y2, wV dT a0 v0]) 0 2 (wK dT a y2) (by rw [ey2]; rfl) (by rw [ey2]; rfl) rfl ?_
  refine wa_iconst (v := 0) C 9 dX4_liveTogether_8 rfl rfl ?_
  refine wa_istore_n (lv' := [(0, .ref (a 0)), (1, .ref (a0 0)), (2, .int (0 : Int32))]) C [1, 2, 0] 10 dX4_liveTogether_9 rfl (Nat.le_of_ble_eq_true rfl) rfl ?_
  exact w_X4_liveTogether_L10 C FUEL (0 : Int32) y2 hf
def f_X4_of (v : Ob) (p0 : Int32) : Option (Int32) := grd (vi p0 12) (some (((v.2 1 (p0).toNatClampNeg) &&& (((1 : Int32) <<< (p0 &&& 31)) ^^^ (-1 : Int32)))))
set_option maxRecDepth 20000 in
theorem c_X4_of {l : Launch} {D : va_G} {dT : Nat → ClassId} {a : Nat → Nat} {v : Ob} {p0 : Int32} {res : Int32} (hf : f_X4_of v p0 = some res) : CTi l yX4_of cX4_of 2 (some .int) ({ frames := 0, cells := 0, slots := 0, locals := 0 } : Room) D dT [.ref (a 0), .int p0] ([wK dT a v]) ([wK dT a v]) res := by
  refine CTi.of (by decide) (Nat.le_of_ble_eq_true rfl) rfl ?_
  intro p e s m args below meth c A C
  unfold f_X4_of at hf
  refine wa_aload_n C 0 1 dX4_of_0 rfl rfl ?_
  refine wa_get C 4 0 0 0 dX4_of_1 rfl iX4 q242 rfl (Nat.le_of_ble_eq_true rfl) rfl rfl rfl ?_
  refine wa_iload_n C 1 5 dX4_of_4 rfl rfl ?_
  obtain ⟨g1, hf⟩ := grd_ex hf
  refine wa_iald C 6 0 1 dX4_of_5 rfl rfl rfl (vi_in g1) ?_
  refine wa_iconst (v := 1) C 7 dX4_of_6 rfl rfl ?_
  refine wa_iload_n C 1 8 dX4_of_7 rfl rfl ?_
  refine wa_ishl C 9 dX4_of_8 rfl ?_
  refine wa_iconst (v := (-1)) C 10 dX4_of_9 rfl rfl ?_
  refine wa_ixor C 11 dX4_of_10 rfl ?_
  refine wa_iand C 12 dX4_of_11 rfl ?_
  cases hf
  exact wa_iret C dX4_of_12 rfl rfl
def f_X4_isAll_L2 (l1 : Int32) (z0 : Ob) : Nat → Int32 → Option (Int32)
  | 0, _ => none
  | n + 1, l2 => (if l1 ≤ l2 then some ((1 : Int32)) else grd (vi l2 12) ((if (z0.2 1 (l2).toNatClampNeg) = (((1 : Int32) <<< (l1 &&& 31)) - (1 : Int32)) then bnd (l2 + 1) (fun x4 => f_X4_isAll_L2 l1 z0 n x4) else some ((0 : Int32)))))
def f_X4_isAll (v : Ob) (p0 : Int32) : Option (Int32) := f_X4_isAll_L2 p0 v FUEL (0 : Int32)
set_option maxRecDepth 20000 in
theorem w_X4_isAll_L2 {p : Program} {l : Launch} {e : Env} {s : State} {m : MethodId} {args : Array Value} {below : List Frame} {meth : Method} {c : Code} {D : va_G} {A : Nat → Prop} {dT : Nat → ClassId} {a : Nat → Nat} {res : Int32} {l1 : Int32} {z0 : Ob} (C : Cx p s m args meth c cX4_isAll 3 RX4 (some .boolean) D A dT) : ∀ (n : Nat) (l2 : Int32), f_X4_isAll_L2 l1 z0 n l2 = some res → WA p l e ({ frames := 0, cells := 0, slots := 0, locals := 0 } : Room) s m args below meth c (MQ below (QI D dT A ([wK dT a z0]) res) args s 0 0 A) D A 0 0 3 2 ([wK dT a z0]) [(0, .ref (a 0)), (1, .int l1), (2, .int l2)] [] := by
  intro n
  induction n with
  | zero => intro l2 hf; cases hf
  | succ n ih =>
    intro l2 hf
    unfold f_X4_isAll_L2 at hf
    refine wa_iload_n C 2 3 dX4_isAll_2 rfl rfl ?_
    refine wa_iload_n C 1 4 dX4_isAll_3 rfl rfl ?_
    refine wa_icmp_ge C 29 7 dX4_isAll_4 rfl rfl (fun c1 => ?_) (fun c1 => ?_)
    · replace hf := ite_t hf c1
      refine wa_iconst (v := 1) C 30 dX4_isAll_29 rfl rfl ?_
      cases hf
      exact wa_zret C dX4_isAll_30 rfl rfl rfl
    · replace hf := ite_f hf c1
      refine wa_aload_n C 0 8 dX4_isAll_7 rfl rfl ?_
      refine wa_get C 11 0 0 0 dX4_isAll_8 rfl iX4 q242 rfl (Nat.le_of_ble_eq_true rfl) rfl rfl rfl ?_
      refine wa_iload_n C 2 12 dX4_isAll_11 rfl rfl ?_
      obtain ⟨g2, hf⟩ := grd_ex hf
      refine wa_iald C 13 0 1 dX4_isAll_12 rfl rfl rfl (vi_in g2) ?_
      refine wa_iconst (v := 1) C 14 dX4_isAll_13 rfl rfl ?_
      refine wa_iload_n C 1 15 dX4_isAll_14 rfl rfl ?_
      refine wa_ishl C 16 dX4_isAll_15 rfl ?_
      refine wa_iconst (v := 1) C 17 dX4_isAll_16 rfl rfl ?_
      refine wa_isub C 18 dX4_isAll_17 rfl ?_
      refine wa_icmp_eq C 23 21 dX4_isAll_18 rfl rfl (fun c3 => ?_) (fun c3 => ?_)
      · replace hf := ite_t hf c3
        obtain ⟨x4, ex4, hf⟩ := bnd_ex hf
        refine wa_iinc (v := x4) (lv' := [(0, .ref (a 0)), (1, .int l1), (2, .int x4)]) C 2 [1, 2, 0] 26 dX4_isAll_23 rfl rfl (by rw [ex4]; rfl) (Nat.le_of_ble_eq_true rfl) rfl ?_
        refine wa_goto C 2 dX4_isAll_26 rfl ?_
        exact ih x4 hf
      · replace hf := ite_f hf c3
        refine wa_iconst (v := 0) C 22 dX4_isAll_21 rfl rfl ?_
        cases hf
        exact wa_zret C dX4_isAll_22 rfl rfl rfl
set_option maxRecDepth 20000 in
theorem c_X4_isAll {l : Launch} {D : va_G} {dT : Nat → ClassId} {a : Nat → Nat} {v : Ob} {p0 : Int32} {res : Int32} (hf : f_X4_isAll v p0 = some res) : CTi l yX4_isAll cX4_isAll 3 (some .boolean) ({ frames := 0, cells := 0, slots := 0, locals := 0 } : Room) D dT [.ref (a 0), .int p0] ([wK dT a v]) ([wK dT a v]) res := by
  refine CTi.of (by decide) (Nat.le_of_ble_eq_true rfl) rfl ?_
  intro p e s m args below meth c A C
  unfold f_X4_isAll at hf
  refine wa_iconst (v := 0) C 1 dX4_isAll_0 rfl rfl ?_
  refine wa_istore_n (lv' := [(0, .ref (a 0)), (1, .int p0), (2, .int (0 : Int32))]) C [1, 2, 0] 2 dX4_isAll_1 rfl (Nat.le_of_ble_eq_true rfl) rfl ?_
  exact w_X4_isAll_L2 C FUEL (0 : Int32) hf
theorem ks_X4_33 : KS RX4 33 yJ6_bitCount_0f7a4 cJ6_bitCount_0f7a4 1 (some .int) 1 := KS.mk q1442 q962 q25 q963 ⟨by decide, by decide, by decide +kernel⟩
def f_X4_strangers_L4 (l1 : Int32) (z0 : Ob) : Nat → Int32 → Int32 → Option (Int32)
  | 0, _, _ => none
  | n + 1, l2, l3 => (if l1 ≤ l3 then some ((l2 / (2 : Int32))) else grd (vi l3 12) ((f_J6_bitCount_0f7a4 (z0.2 1 (l3).toNatClampNeg)).bind (fun q3 => bnd (l2 + (l1 - q3)) (fun x4 => bnd (l3 + 1) (fun x5 => f_X4_strangers_L4 l1 z0 n x4 x5)))))
def f_X4_strangers (v : Ob) (p0 : Int32) : Option (Int32) := f_X4_strangers_L4 p0 v FUEL (0 : Int32) (0 : Int32)
set_option maxRecDepth 20000 in
theorem w_X4_strangers_L4 {p : Program} {l : Launch} {e : Env} {s : State} {m : MethodId} {args : Array Value} {below : List Frame} {meth : Method} {c : Code} {D : va_G} {A : Nat → Prop} {dT : Nat → ClassId} {a : Nat → Nat} {res : Int32} {l1 : Int32} {z0 : Ob} (C : Cx p s m args meth c cX4_strangers 4 RX4 (some .int) D A dT) : ∀ (n : Nat) (l2 : Int32) (l3 : Int32), f_X4_strangers_L4 l1 z0 n l2 l3 = some res → WA p l e ({ frames := 1, cells := 0, slots := 0, locals := 20 } : Room) s m args below meth c (MQ below (QI D dT A ([wK dT a z0]) res) args s 0 0 A) D A 0 0 4 4 ([wK dT a z0]) [(0, .ref (a 0)), (1, .int l1), (2, .int l2), (3, .int l3)] [] := by
  intro n
  induction n with
  | zero => intro l2 l3 hf; cases hf
  | succ n ih =>
    intro l2 l3 hf
    unfold f_X4_strangers_L4 at hf
    refine wa_iload_n C 3 5 dX4_strangers_4 rfl rfl ?_
    refine wa_iload_n C 1 6 dX4_strangers_5 rfl rfl ?_
    refine wa_icmp_ge C 29 9 dX4_strangers_6 rfl rfl (fun c1 => ?_) (fun c1 => ?_)
    · replace hf := ite_t hf c1
      refine wa_iload_n C 2 30 dX4_strangers_29 rfl rfl ?_
      refine wa_iconst (v := 2) C 31 dX4_strangers_30 rfl rfl ?_
      refine wa_idiv C 32 dX4_strangers_31 rfl (by decide) ?_
      cases hf
      exact wa_iret C dX4_strangers_32 rfl rfl
    · replace hf := ite_f hf c1
      refine wa_iload_n C 2 10 dX4_strangers_9 rfl rfl ?_
      refine wa_iload_n C 1 11 dX4_strangers_10 rfl rfl ?_
      refine wa_aload_n C 0 12 dX4_strangers_11 rfl rfl ?_
      refine wa_get C 15 0 0 0 dX4_strangers_12 rfl iX4 q242 rfl (Nat.le_of_ble_eq_true rfl) rfl rfl rfl ?_
      refine wa_iload_n C 3 16 dX4_strangers_15 rfl rfl ?_
      obtain ⟨g2, hf⟩ := grd_ex hf
      refine wa_iald C 17 0 1 dX4_strangers_16 rfl rfl rfl (vi_in g2) ?_
      obtain ⟨q3, hq3, hf⟩ := bind_ex hf
      refine wa_callS0i (As := [.int (z0.2 1 (l3).toNatClampNeg)]) C 20 dX4_strangers_17 rfl ks_X4_33 (c_J6_bitCount_0f7a4 hq3) ⟨rfl, rfl⟩ ⟨Nat.le_of_ble_eq_true rfl, Nat.le_of_ble_eq_true rfl⟩ rfl rfl ⟨Nat.zero_le _, Nat.zero_le _⟩ (Nat.le_of_ble_eq_true rfl) ?_
      refine wa_isub C 21 dX4_strangers_20 rfl ?_
      refine wa_iadd C 22 dX4_strangers_21 rfl ?_
      obtain ⟨x4, ex4, hf⟩ := bnd_ex hf
      refine wa_topi ex4 ?_
      refine wa_istore_n (lv' := [(0, .ref (a 0)), (1, .int l1), (2, .int x4), (3, .int l3)]) C [1, 2, 0, 3] 23 dX4_strangers_22 rfl (Nat.le_of_ble_eq_true rfl) rfl ?_
      obtain ⟨x5, ex5, hf⟩ := bnd_ex hf
      refine wa_iinc (v := x5) (lv' := [(0, .ref (a 0)), (1, .int l1), (2, .int x4), (3, .int x5)]) C 3 [1, 2, 3, 0] 26 dX4_strangers_23 rfl rfl (by rw [ex5]; rfl) (Nat.le_of_ble_eq_true rfl) rfl ?_
      refine wa_goto C 4 dX4_strangers_26 rfl ?_
      exact ih x4 x5 hf
set_option maxRecDepth 20000 in
theorem c_X4_strangers {l : Launch} {D : va_G} {dT : Nat → ClassId} {a : Nat → Nat} {v : Ob} {p0 : Int32} {res : Int32} (hf : f_X4_strangers v p0 = some res) : CTi l yX4_strangers cX4_strangers 4 (some .int) ({ frames := 1, cells := 0, slots := 0, locals := 20 } : Room) D dT [.ref (a 0), .int p0] ([wK dT a v]) ([wK dT a v]) res := by
  refine CTi.of (by decide) (Nat.le_of_ble_eq_true rfl) rfl ?_
  intro p e s m args below meth c A C
  unfold f_X4_strangers at hf
  refine wa_iconst (v := 0) C 1 dX4_strangers_0 rfl rfl ?_
  refine wa_istore_n (lv' := [(0, .ref (a 0)), (1, .int p0), (2, .int (0 : Int32))]) C [1, 2, 0] 2 dX4_strangers_1 rfl (Nat.le_of_ble_eq_true rfl) rfl ?_
  refine wa_iconst (v := 0) C 3 dX4_strangers_2 rfl rfl ?_
  refine wa_istore_n (lv' := [(0, .ref (a 0)), (1, .int p0), (2, .int (0 : Int32)), (3, .int (0 : Int32))]) C [1, 2, 3, 0] 4 dX4_strangers_3 rfl (Nat.le_of_ble_eq_true rfl) rfl ?_
  exact w_X4_strangers_L4 C FUEL (0 : Int32) (0 : Int32) hf
def f_X8_copyFrom (v : Ob) (v0 : Ob) : Option (Ob) := bnd (upd v.1 0 (v0.1 0), v.2) (fun y1 => grd (cpg (0 : Int32) (0 : Int32) (8 : Int32) 8 8) (bnd (y1.1, sA y1.2 1 (va_cpy (v0.2 1) (y1.2 1) ((0 : Int32)).toNatClampNeg ((0 : Int32)).toNatClampNeg ((8 : Int32)).toNatClampNeg)) (fun y3 => grd (cpg (0 : Int32) (0 : Int32) (8 : Int32) 8 8) (bnd (y3.1, sA y3.2 2 (va_cpy (v0.2 2) (y3.2 2) ((0 : Int32)).toNatClampNeg ((0 : Int32)).toNatClampNeg ((8 : Int32)).toNatClampNeg)) (fun y5 => grd (cpg (0 : Int32) (0 : Int32) (8 : Int32) 8 8) (bnd (y5.1, sA y5.2 3 (va_cpy (v0.2 3) (y5.2 3) ((0 : Int32)).toNatClampNeg ((0 : Int32)).toNatClampNeg ((8 : Int32)).toNatClampNeg)) (fun y7 => some (y7))))))))
set_option maxRecDepth 20000 in
theorem c_X8_copyFrom {l : Launch} {D : va_G} {dT : Nat → ClassId} {a : Nat → Nat} {a0 : Nat → Nat} {v : Ob} {v0 : Ob} {res : Ob} (hf : f_X8_copyFrom v v0 = some res) : CTv l yX8_copyFrom cX8_copyFrom 2 none ({ frames := 3, cells := 0, slots := 0, locals := 60 } : Room) D dT [.ref (a 0), .ref (a0 0)] ([wS dT a v, wS dT a0 v0]) ([wS dT a res, wS dT a0 v0]) := by
  refine CTv.of (by decide) (Nat.le_of_ble_eq_true rfl) rfl ?_
  intro p e s m args below meth c A C
  unfold f_X8_copyFrom at hf
  refine wa_aload_n C 0 1 dX8_copyFrom_0 rfl rfl ?_
  refine wa_aload_n C 1 2 dX8_copyFrom_1 rfl rfl ?_
  refine wa_get C 5 1 0 0 dX8_copyFrom_2 rfl iX8 q293 rfl (Nat.le_of_ble_eq_true rfl) rfl rfl rfl ?_
  obtain ⟨y1, ey1, hf⟩ := bnd_ex hf
  refine wa_put (ws' := [wS dT a y1, wS dT a0 v0]) C 8 0 0 0 tyX8 dX8_copyFrom_5 rfl iX8 tyX8_ok nmX8 q293 rfl (Nat.le_of_ble_eq_true rfl) rfl rfl rfl rfl rfl (Nat.le_of_ble_eq_true rfl) (by rw [ey1]; rfl) ?_
  refine wa_aload_n C 1 9 dX8_copyFrom_8 rfl rfl ?_
  refine wa_get C 12 1 0 1 dX8_copyFrom_9 rfl iX8 q295 rfl (Nat.le_of_ble_eq_true rfl) rfl rfl rfl ?_
  refine wa_iconst (v := 0) C 13 dX8_copyFrom_12 rfl rfl ?_
  refine wa_aload_n C 0 14 dX8_copyFrom_13 rfl rfl ?_
  refine wa_get C 17 0 0 1 dX8_copyFrom_14 rfl iX8 q295 rfl (Nat.le_of_ble_eq_true rfl) rfl rfl rfl ?_
  refine wa_iconst (v := 0) C 18 dX8_copyFrom_17 rfl rfl ?_
  refine wa_bipush (v := 8) C 20 dX8_copyFrom_18 rfl rfl ?_
  obtain ⟨g2, hf⟩ := grd_ex hf
  obtain ⟨y3, ey3, hf⟩ := bnd_ex hf
  refine wa_copyi (ws' := [wS dT a y3, wS dT a0 v0]) C 23 1 1 0 1 dX8_copyFrom_20 rfl q606 q448 q447 q24 rfl rfl rfl rfl g2 (Nat.le_of_ble_eq_true rfl) (Nat.le_of_ble_eq_true rfl) (by rw [ey3]; rfl) ?_
  refine wa_aload_n C 1 24 dX8_copyFrom_23 rfl rfl ?_
  refine wa_get C 27 1 0 2 dX8_copyFrom_24 rfl iX8 q296 rfl (Nat.le_of_ble_eq_true rfl) rfl rfl rfl ?_
  refine wa_iconst (v := 0) C 28 dX8_copyFrom_27 rfl rfl ?_
  refine wa_aload_n C 0 29 dX8_copyFrom_28 rfl rfl ?_
  refine wa_get C 32 0 0 2 dX8_copyFrom_29 rfl iX8 q296 rfl (Nat.le_of_ble_eq_true rfl) rfl rfl rfl ?_
  refine wa_iconst (v := 0) C 33 dX8_copyFrom_32 rfl rfl ?_
  refine wa_bipush (v := 8) C 35 dX8_copyFrom_33 rfl rfl ?_
  obtain ⟨g4, hf⟩ := grd_ex hf
  obtain ⟨y5, ey5, hf⟩ := bnd_ex hf
  refine wa_copyi (ws' := [wS dT a y5, wS dT a0 v0]) C 38 1 2 0 2 dX8_copyFrom_35 rfl q606 q448 q447 q24 rfl rfl rfl rfl g4 (Nat.le_of_ble_eq_true rfl) (Nat.le_of_ble_eq_true rfl) (by rw [ey5]; rfl) ?_
  refine wa_aload_n C 1 39 dX8_copyFrom_38 rfl rfl ?_
  refine wa_get C 42 1 0 3 dX8_copyFrom_39 rfl iX8 q297 rfl (Nat.le_of_ble_eq_true rfl) rfl rfl rfl ?_
  refine wa_iconst (v := 0) C 43 dX8_copyFrom_42 rfl rfl ?_
  refine wa_aload_n C 0 44 dX8_copyFrom_43 rfl rfl ?_
  refine wa_get C 47 0 0 3 dX8_copyFrom_44 rfl iX8 q297 rfl (Nat.le_of_ble_eq_true rfl) rfl rfl rfl ?_
  refine wa_iconst (v := 0) C 48 dX8_copyFrom_47 rfl rfl ?_
  refine wa_bipush (v := 8) C 50 dX8_copyFrom_48 rfl rfl ?_
  obtain ⟨g6, hf⟩ := grd_ex hf
  obtain ⟨y7, ey7, hf⟩ := bnd_ex hf
  refine wa_copyi (ws' := [wS dT a y7, wS dT a0 v0]) C 53 1 3 0 3 dX8_copyFrom_50 rfl q606 q448 q447 q24 rfl rfl rfl rfl g6 (Nat.le_of_ble_eq_true rfl) (Nat.le_of_ble_eq_true rfl) (by rw [ey7]; rfl) ?_
  cases hf
  exact wa_vret C dX8_copyFrom_53 rfl
def f_X8_add (v : Ob) (p0 : Int32) (p1 : Int32) (p2 : Int32) : Option (Ob) := (if (8 : Int32) ≤ (v.1 0) then some (v) else grd (vi (v.1 0) 8) (bnd (v.1, uA v.2 1 ((v.1 0)).toNatClampNeg p0) (fun y3 => grd (vi (y3.1 0) 8) (bnd (y3.1, uA y3.2 2 ((y3.1 0)).toNatClampNeg p1) (fun y5 => grd (vi (y5.1 0) 8) (bnd (y5.1, uA y5.2 3 ((y5.1 0)).toNatClampNeg p2) (fun y7 => bnd (upd y7.1 0 ((y7.1 0) + (1 : Int32)), y7.2) (fun y8 => some (y8)))))))))
set_option maxRecDepth 20000 in
theorem c_X8_add {l : Launch} {D : va_G} {dT : Nat → ClassId} {a : Nat → Nat} {v : Ob} {p0 : Int32} {p1 : Int32} {p2 : Int32} {res : Ob} (hf : f_X8_add v p0 p1 p2 = some res) : CTv l yX8_add cX8_add 4 none ({ frames := 0, cells := 0, slots := 0, locals := 0 } : Room) D dT [.ref (a 0), .int p0, .int p1, .int p2] ([wS dT a v]) ([wS dT a res]) := by
  refine CTv.of (by decide) (Nat.le_of_ble_eq_true rfl) rfl ?_
  intro p e s m args below meth c A C
  unfold f_X8_add at hf
  refine wa_aload_n C 0 1 dX8_add_0 rfl rfl ?_
  refine wa_get C 4 0 0 0 dX8_add_1 rfl iX8 q293 rfl (Nat.le_of_ble_eq_true rfl) rfl rfl rfl ?_
  refine wa_bipush (v := 8) C 6 dX8_add_4 rfl rfl ?_
  refine wa_icmp_ge C 49 9 dX8_add_6 rfl rfl (fun c1 => ?_) (fun c1 => ?_)
  · replace hf := ite_t hf c1
    cases hf
    exact wa_vret C dX8_add_49 rfl
  · replace hf := ite_f hf c1
    refine wa_aload_n C 0 10 dX8_add_9 rfl rfl ?_
    refine wa_get C 13 0 0 1 dX8_add_10 rfl iX8 q295 rfl (Nat.le_of_ble_eq_true rfl) rfl rfl rfl ?_
    refine wa_aload_n C 0 14 dX8_add_13 rfl rfl ?_
    refine wa_get C 17 0 0 0 dX8_add_14 rfl iX8 q293 rfl (Nat.le_of_ble_eq_true rfl) rfl rfl rfl ?_
    refine wa_iload_n C 1 18 dX8_add_17 rfl rfl ?_
    obtain ⟨g2, hf⟩ := grd_ex hf
    obtain ⟨y3, ey3, hf⟩ := bnd_ex hf
    refine wa_iast (ws' := [wS dT a y3]) C 19 0 1 dX8_add_18 rfl rfl rfl (vi_in g2) (by rw [ey3]; rfl) ?_
    refine wa_aload_n C 0 20 dX8_add_19 rfl rfl ?_
    refine wa_get C 23 0 0 2 dX8_add_20 rfl iX8 q296 rfl (Nat.le_of_ble_eq_true rfl) rfl rfl rfl ?_
    refine wa_aload_n C 0 24 dX8_add_23 rfl rfl ?_
    refine wa_get C 27 0 0 0 dX8_add_24 rfl iX8 q293 rfl (Nat.le_of_ble_eq_true rfl) rfl rfl rfl ?_
    refine wa_iload_n C 2 28 dX8_add_27 rfl rfl ?_
    obtain ⟨g4, hf⟩ := grd_ex hf
    obtain ⟨y5, ey5, hf⟩ := bnd_ex hf
    refine wa_iast (ws' := [wS dT a y5]) C 29 0 2 dX8_add_28 rfl rfl rfl (vi_in g4) (by rw [ey5]; rfl) ?_
    refine wa_aload_n C 0 30 dX8_add_29 rfl rfl ?_
    refine wa_get C 33 0 0 3 dX8_add_30 rfl iX8 q297 rfl (Nat.le_of_ble_eq_true rfl) rfl rfl rfl ?_
    refine wa_aload_n C 0 34 dX8_add_33 rfl rfl ?_
    refine wa_get C 37 0 0 0 dX8_add_34 rfl iX8 q293 rfl (Nat.le_of_ble_eq_true rfl) rfl rfl rfl ?_
    refine wa_iload_n C 3 38 dX8_add_37 rfl rfl ?_
    obtain ⟨g6, hf⟩ := grd_ex hf
    obtain ⟨y7, ey7, hf⟩ := bnd_ex hf
    refine wa_iast (ws' := [wS dT a y7]) C 39 0 3 dX8_add_38 rfl rfl rfl (vi_in g6) (by rw [ey7]; rfl) ?_
    refine wa_aload_n C 0 40 dX8_add_39 rfl rfl ?_
    refine wa_dup C 41 dX8_add_40 rfl rfl ?_
    refine wa_get C 44 0 0 0 dX8_add_41 rfl iX8 q293 rfl (Nat.le_of_ble_eq_true rfl) rfl rfl rfl ?_
    refine wa_iconst (v := 1) C 45 dX8_add_44 rfl rfl ?_
    refine wa_iadd C 46 dX8_add_45 rfl ?_
    obtain ⟨y8, ey8, hf⟩ := bnd_ex hf
    refine wa_put (ws' := [wS dT a y8]) C 49 0 0 0 tyX8 dX8_add_46 rfl iX8 tyX8_ok nmX8 q293 rfl (Nat.le_of_ble_eq_true rfl) rfl rfl rfl rfl rfl (Nat.le_of_ble_eq_true rfl) (by rw [ey8]; rfl) ?_
    cases hf
    exact wa_vret C dX8_add_49 rfl
def f_X8_last_L4 (z0 : Ob) : Nat → Int32 → Int32 → Option (Int32)
  | 0, _, _ => none
  | n + 1, l1, l2 => (if (z0.1 0) ≤ l2 then some (l1) else grd (vi l2 8) (bnd (if l1 < (z0.2 2 (l2).toNatClampNeg) then (z0.2 2 (l2).toNatClampNeg) else l1) (fun x3 => bnd (l2 + 1) (fun x4 => f_X8_last_L4 z0 n x3 x4))))
def f_X8_last (v : Ob) : Option (Int32) := f_X8_last_L4 v FUEL (-1 : Int32) (0 : Int32)
set_option maxRecDepth 20000 in
theorem w_X8_last_L4 {p : Program} {l : Launch} {e : Env} {s : State} {m : MethodId} {args : Array Value} {below : List Frame} {meth : Method} {c : Code} {D : va_G} {A : Nat → Prop} {dT : Nat → ClassId} {a : Nat → Nat} {res : Int32} {z0 : Ob} (C : Cx p s m args meth c cX8_last 3 RX8 (some .int) D A dT) : ∀ (n : Nat) (l1 : Int32) (l2 : Int32), f_X8_last_L4 z0 n l1 l2 = some res → WA p l e ({ frames := 3, cells := 0, slots := 0, locals := 60 } : Room) s m args below meth c (MQ below (QI D dT A ([wS dT a z0]) res) args s 0 0 A) D A 0 0 3 4 ([wS dT a z0]) [(0, .ref (a 0)), (1, .int l1), (2, .int l2)] [] := by
  intro n
  induction n with
  | zero => intro l1 l2 hf; cases hf
  | succ n ih =>
    intro l1 l2 hf
    unfold f_X8_last_L4 at hf
    refine wa_iload_n C 2 5 dX8_last_4 rfl rfl ?_
    refine wa_aload_n C 0 6 dX8_last_5 rfl rfl ?_
    refine wa_get C 9 0 0 0 dX8_last_6 rfl iX8 q293 rfl (Nat.le_of_ble_eq_true rfl) rfl rfl rfl ?_
    refine wa_icmp_ge C 29 12 dX8_last_9 rfl rfl (fun c1 => ?_) (fun c1 => ?_)
    · replace hf := ite_t hf c1
      refine wa_iload_n C 1 30 dX8_last_29 rfl rfl ?_
      cases hf
      exact wa_iret C dX8_last_30 rfl rfl
    · replace hf := ite_f hf c1
      refine wa_iload_n C 1 13 dX8_last_12 rfl rfl ?_
      refine wa_aload_n C 0 14 dX8_last_13 rfl rfl ?_
      refine wa_get C 17 0 0 2 dX8_last_14 rfl iX8 q296 rfl (Nat.le_of_ble_eq_true rfl) rfl rfl rfl ?_
      refine wa_iload_n C 2 18 dX8_last_17 rfl rfl ?_
      obtain ⟨g2, hf⟩ := grd_ex hf
      refine wa_iald C 19 0 2 dX8_last_18 rfl rfl rfl (vi_in g2) ?_
      refine wa_mmax C 22 dX8_last_19 rfl q1319 q740 q18 q741 (Nat.le_of_ble_eq_true rfl) (Nat.le_of_ble_eq_true rfl) ⟨Nat.zero_le _, Nat.zero_le _⟩ ?_
      obtain ⟨x3, ex3, hf⟩ := bnd_ex hf
      refine wa_topi ex3 ?_
      refine wa_istore_n (lv' := [(0, .ref (a 0)), (1, .int x3), (2, .int l2)]) C [1, 0, 2] 23 dX8_last_22 rfl (Nat.le_of_ble_eq_true rfl) rfl ?_
      obtain ⟨x4, ex4, hf⟩ := bnd_ex hf
      refine wa_iinc (v := x4) (lv' := [(0, .ref (a 0)), (1, .int x3), (2, .int x4)]) C 2 [1, 2, 0] 26 dX8_last_23 rfl rfl (by rw [ex4]; rfl) (Nat.le_of_ble_eq_true rfl) rfl ?_
      refine wa_goto C 4 dX8_last_26 rfl ?_
      exact ih x3 x4 hf
set_option maxRecDepth 20000 in
theorem c_X8_last {l : Launch} {D : va_G} {dT : Nat → ClassId} {a : Nat → Nat} {v : Ob} {res : Int32} (hf : f_X8_last v = some res) : CTi l yX8_last cX8_last 3 (some .int) ({ frames := 3, cells := 0, slots := 0, locals := 60 } : Room) D dT [.ref (a 0)] ([wS dT a v]) ([wS dT a v]) res := by
  refine CTi.of (by decide) (Nat.le_of_ble_eq_true rfl) rfl ?_
  intro p e s m args below meth c A C
  unfold f_X8_last at hf
  refine wa_iconst (v := (-1)) C 1 dX8_last_0 rfl rfl ?_
  refine wa_istore_n (lv' := [(0, .ref (a 0)), (1, .int (-1 : Int32))]) C [1, 0] 2 dX8_last_1 rfl (Nat.le_of_ble_eq_true rfl) rfl ?_
  refine wa_iconst (v := 0) C 3 dX8_last_2 rfl rfl ?_
  refine wa_istore_n (lv' := [(0, .ref (a 0)), (1, .int (-1 : Int32)), (2, .int (0 : Int32))]) C [1, 2, 0] 4 dX8_last_3 rfl (Nat.le_of_ble_eq_true rfl) rfl ?_
  exact w_X8_last_L4 C FUEL (-1 : Int32) (0 : Int32) hf
def f_X8_fits_L2 (l2 : Int32) (z0 : Ob) (z1 : Ob) : Nat → Int32 → Option (Int32)
  | 0, _ => none
  | n + 1, l3 => (if (z0.1 0) ≤ l3 then some ((1 : Int32)) else grd (vi l3 8) ((if (z0.2 2 (l3).toNatClampNeg) = l2 then grd (vi l3 8) (grd (vi (z0.2 1 (l3).toNatClampNeg) 12) (grd (vi (z1.2 2 ((z0.2 1 (l3).toNatClampNeg)).toNatClampNeg) 13) (grd (vi l3 8) ((if (z1.2 6 ((z1.2 2 ((z0.2 1 (l3).toNatClampNeg)).toNatClampNeg)).toNatClampNeg) = (z0.2 3 (l3).toNatClampNeg) then bnd (l3 + 1) (fun x10 => f_X8_fits_L2 l2 z0 z1 n x10) else some ((0 : Int32))))))) else bnd (l3 + 1) (fun x4 => f_X8_fits_L2 l2 z0 z1 n x4))))
def f_X8_fits (v : Ob) (v0 : Ob) (p1 : Int32) : Option (Int32) := f_X8_fits_L2 p1 v v0 FUEL (0 : Int32)
set_option maxRecDepth 20000 in
theorem w_X8_fits_L2 {p : Program} {l : Launch} {e : Env} {s : State} {m : MethodId} {args : Array Value} {below : List Frame} {meth : Method} {c : Code} {D : va_G} {A : Nat → Prop} {dT : Nat → ClassId} {a : Nat → Nat} {a0 : Nat → Nat} {res : Int32} {l2 : Int32} {z0 : Ob} {z1 : Ob} (C : Cx p s m args meth c cX8_fits 4 RX8 (some .boolean) D A dT) : ∀ (n : Nat) (l3 : Int32), f_X8_fits_L2 l2 z0 z1 n l3 = some res → WA p l e ({ frames := 0, cells := 0, slots := 0, locals := 0 } : Room) s m args below meth c (MQ below (QI D dT A ([wS dT a z0, wV dT a0 z1]) res) args s 0 0 A) D A 0 0 4 2 ([wS dT a z0, wV dT a0 z1]) [(0, .ref (a 0)), (1, .ref (a0 0)), (2, .int l2), (3, .int l3)] [] := by
  intro n
  induction n with
  | zero => intro l3 hf; cases hf
  | succ n ih =>
    intro l3 hf
    unfold f_X8_fits_L2 at hf
    refine wa_iload_n C 3 3 dX8_fits_2 rfl rfl ?_
    refine wa_aload_n C 0 4 dX8_fits_3 rfl rfl ?_
    refine wa_get C 7 0 0 0 dX8_fits_4 rfl iX8 q293 rfl (Nat.le_of_ble_eq_true rfl) rfl rfl rfl ?_
    refine wa_icmp_ge C 53 10 dX8_fits_7 rfl rfl (fun c1 => ?_) (fun c1 => ?_)
    · replace hf := ite_t hf c1
      refine wa_iconst (v := 1) C 54 dX8_fits_53 rfl rfl ?_
      cases hf
      exact wa_zret C dX8_fits_54 rfl rfl rfl
    · replace hf := ite_f hf c1
      refine wa_aload_n C 0 11 dX8_fits_10 rfl rfl ?_
      refine wa_get C 14 0 0 2 dX8_fits_11 rfl iX8 q296 rfl (Nat.le_of_ble_eq_true rfl) rfl rfl rfl ?_
      refine wa_iload_n C 3 15 dX8_fits_14 rfl rfl ?_
      obtain ⟨g2, hf⟩ := grd_ex hf
      refine wa_iald C 16 0 2 dX8_fits_15 rfl rfl rfl (vi_in g2) ?_
      refine wa_iload_n C 2 17 dX8_fits_16 rfl rfl ?_
      refine wa_icmp_ne C 47 20 dX8_fits_17 rfl rfl (fun c3 => ?_) (fun c3 => ?_)
      · replace hf := ite_f hf c3
        obtain ⟨x4, ex4, hf⟩ := bnd_ex hf
        refine wa_iinc (v := x4) (lv' := [(0, .ref (a 0)), (1, .ref (a0 0)), (2, .int l2), (3, .int x4)]) C 3 [1, 2, 3, 0] 50 dX8_fits_47 rfl rfl (by rw [ex4]; rfl) (Nat.le_of_ble_eq_true rfl) rfl ?_
        refine wa_goto C 2 dX8_fits_50 rfl ?_
        exact ih x4 hf
      · replace hf := ite_t hf c3
        refine wa_aload_n C 1 21 dX8_fits_20 rfl rfl ?_
        refine wa_get C 24 1 0 8 dX8_fits_21 rfl iX10 q90 rfl (Nat.le_of_ble_eq_true rfl) rfl rfl rfl ?_
        refine wa_aload_n C 1 25 dX8_fits_24 rfl rfl ?_
        refine wa_get C 28 1 0 4 dX8_fits_25 rfl iX10 q75 rfl (Nat.le_of_ble_eq_true rfl) rfl rfl rfl ?_
        refine wa_aload_n C 0 29 dX8_fits_28 rfl rfl ?_
        refine wa_get C 32 0 0 1 dX8_fits_29 rfl iX8 q295 rfl (Nat.le_of_ble_eq_true rfl) rfl rfl rfl ?_
        refine wa_iload_n C 3 33 dX8_fits_32 rfl rfl ?_
        obtain ⟨g5, hf⟩ := grd_ex hf
        refine wa_iald C 34 0 1 dX8_fits_33 rfl rfl rfl (vi_in g5) ?_
        obtain ⟨g6, hf⟩ := grd_ex hf
        refine wa_iald C 35 1 2 dX8_fits_34 rfl rfl rfl (vi_in g6) ?_
        obtain ⟨g7, hf⟩ := grd_ex hf
        refine wa_iald C 36 1 6 dX8_fits_35 rfl rfl rfl (vi_in g7) ?_
        refine wa_aload_n C 0 37 dX8_fits_36 rfl rfl ?_
        refine wa_get C 40 0 0 3 dX8_fits_37 rfl iX8 q297 rfl (Nat.le_of_ble_eq_true rfl) rfl rfl rfl ?_
        refine wa_iload_n C 3 41 dX8_fits_40 rfl rfl ?_
        obtain ⟨g8, hf⟩ := grd_ex hf
        refine wa_iald C 42 0 3 dX8_fits_41 rfl rfl rfl (vi_in g8) ?_
        refine wa_icmp_eq C 47 45 dX8_fits_42 rfl rfl (fun c9 => ?_) (fun c9 => ?_)
        · replace hf := ite_t hf c9
          obtain ⟨x10, ex10, hf⟩ := bnd_ex hf
          refine wa_iinc (v := x10) (lv' := [(0, .ref (a 0)), (1, .ref (a0 0)), (2, .int l2), (3, .int x10)]) C 3 [1, 2, 3, 0] 50 dX8_fits_47 rfl rfl (by rw [ex10]; rfl) (Nat.le_of_ble_eq_true rfl) rfl ?_
          refine wa_goto C 2 dX8_fits_50 rfl ?_
          exact ih x10 hf
        · replace hf := ite_f hf c9
          refine wa_iconst (v := 0) C 46 dX8_fits_45 rfl rfl ?_
          cases hf
          exact wa_zret C dX8_fits_46 rfl rfl rfl
set_option maxRecDepth 20000 in
theorem c_X8_fits {l : Launch} {D : va_G} {dT : Nat → ClassId} {a : Nat → Nat} {a0 : Nat → Nat} {v : Ob} {v0 : Ob} {p1 : Int32} {res : Int32} (hf : f_X8_fits v v0 p1 = some res) : CTi l yX8_fits cX8_fits 4 (some .boolean) ({ frames := 0, cells := 0, slots := 0, locals := 0 } : Room) D dT [.ref (a 0), .ref (a0 0), .int p1] ([wS dT a v, wV dT a0 v0]) ([wS dT a v, wV dT a0 v0]) res := by
  refine CTi.of (by decide) (Nat.le_of_ble_eq_true rfl) rfl ?_
  intro p e s m args below meth c A C
  unfold f_X8_fits at hf
  refine wa_iconst (v := 0) C 1 dX8_fits_0 rfl rfl ?_
  refine wa_istore_n (lv' := [(0, .ref (a 0)), (1, .ref (a0 0)), (2, .int p1), (3, .int (0 : Int32))]) C [1, 2, 3, 0] 2 dX8_fits_1 rfl (Nat.le_of_ble_eq_true rfl) rfl ?_
  exact w_X8_fits_L2 C FUEL (0 : Int32) hf
def f_X5_many_L4 (z0 : Ob) (z1 : Ob) : Nat → Int32 → Int32 → Option (Int32)
  | 0, _, _ => none
  | n + 1, l2, l3 => (if (z1.1 1) ≤ l3 then some (l2) else grd (vi l3 13) (bnd (l2 + ((z1.2 6 (l3).toNatClampNeg) / (2 : Int32))) (fun x3 => bnd (l3 + 1) (fun x4 => f_X5_many_L4 z0 z1 n x3 x4))))
def f_X5_many (v : Ob) (v0 : Ob) : Option (Int32) := f_X5_many_L4 v v0 FUEL (0 : Int32) (0 : Int32)
set_option maxRecDepth 20000 in
theorem w_X5_many_L4 {p : Program} {l : Launch} {e : Env} {s : State} {m : MethodId} {args : Array Value} {below : List Frame} {meth : Method} {c : Code} {D : va_G} {A : Nat → Prop} {dT : Nat → ClassId} {a : Nat → Nat} {a0 : Nat → Nat} {res : Int32} {z0 : Ob} {z1 : Ob} (C : Cx p s m args meth c cX5_many 4 RX5 (some .int) D A dT) : ∀ (n : Nat) (l2 : Int32) (l3 : Int32), f_X5_many_L4 z0 z1 n l2 l3 = some res → WA p l e ({ frames := 0, cells := 0, slots := 0, locals := 0 } : Room) s m args below meth c (MQ below (QI D dT A ([wP dT a z0, wV dT a0 z1]) res) args s 0 0 A) D A 0 0 4 4 ([wP dT a z0, wV dT a0 z1]) [(1, .ref (a0 0)), (2, .int l2), (3, .int l3)] [] := by
  intro n
  induction n with
  | zero => intro l2 l3 hf; cases hf
  | succ n ih =>
    intro l2 l3 hf
    unfold f_X5_many_L4 at hf
    refine wa_iload_n C 2 5 dX5_many_4 rfl rfl ?_
    refine wa_aload_n C 0 6 dX5_many_5 rfl rfl ?_
    refine wa_get C 9 1 0 1 dX5_many_6 rfl iX10 q57 rfl (Nat.le_of_ble_eq_true rfl) rfl rfl rfl ?_
    refine wa_icmp_ge C 29 12 dX5_many_9 rfl rfl (fun c1 => ?_) (fun c1 => ?_)
    · replace hf := ite_t hf c1
      refine wa_iload_n C 1 30 dX5_many_29 rfl rfl ?_
      cases hf
      exact wa_iret C dX5_many_30 rfl rfl
    · replace hf := ite_f hf c1
      refine wa_iload_n C 1 13 dX5_many_12 rfl rfl ?_
      refine wa_aload_n C 0 14 dX5_many_13 rfl rfl ?_
      refine wa_get C 17 1 0 8 dX5_many_14 rfl iX10 q88 rfl (Nat.le_of_ble_eq_true rfl) rfl rfl rfl ?_
      refine wa_iload_n C 2 18 dX5_many_17 rfl rfl ?_
      obtain ⟨g2, hf⟩ := grd_ex hf
      refine wa_iald C 19 1 6 dX5_many_18 rfl rfl rfl (vi_in g2) ?_
      refine wa_iconst (v := 2) C 20 dX5_many_19 rfl rfl ?_
      refine wa_idiv C 21 dX5_many_20 rfl (by decide) ?_
      refine wa_iadd C 22 dX5_many_21 rfl ?_
      obtain ⟨x3, ex3, hf⟩ := bnd_ex hf
      refine wa_topi ex3 ?_
      refine wa_istore_n (lv' := [(1, .ref (a0 0)), (2, .int x3), (3, .int l3)]) C [1, 0, 2] 23 dX5_many_22 rfl (Nat.le_of_ble_eq_true rfl) rfl ?_
      obtain ⟨x4, ex4, hf⟩ := bnd_ex hf
      refine wa_iinc (v := x4) (lv' := [(1, .ref (a0 0)), (2, .int x3), (3, .int x4)]) C 2 [1, 2, 0] 26 dX5_many_23 rfl rfl (by rw [ex4]; rfl) (Nat.le_of_ble_eq_true rfl) rfl ?_
      refine wa_goto C 4 dX5_many_26 rfl ?_
      exact ih x3 x4 hf
set_option maxRecDepth 20000 in
theorem c_X5_many {l : Launch} {D : va_G} {dT : Nat → ClassId} {a : Nat → Nat} {a0 : Nat → Nat} {v : Ob} {v0 : Ob} {res : Int32} (hf : f_X5_many v v0 = some res) : CTi l yX5_many cX5_many 4 (some .int) ({ frames := 0, cells := 0, slots := 0, locals := 0 } : Room) D dT [.ref (a 0), .ref (a0 0)] ([wP dT a v, wV dT a0 v0]) ([wP dT a v, wV dT a0 v0]) res := by
  refine CTi.of (by decide) (Nat.le_of_ble_eq_true rfl) rfl ?_
  intro p e s m args below meth c A C
  unfold f_X5_many at hf
  refine wa_iconst (v := 0) C 1 dX5_many_0 rfl rfl ?_
  refine wa_istore_n (lv' := [(0, .ref (a 0)), (1, .ref (a0 0)), (2, .int (0 : Int32))]) C [1, 2, 0] 2 dX5_many_1 rfl (Nat.le_of_ble_eq_true rfl) rfl ?_
  refine wa_iconst (v := 0) C 3 dX5_many_2 rfl rfl ?_
  refine wa_istore_n (lv' := [(0, .ref (a 0)), (1, .ref (a0 0)), (2, .int (0 : Int32)), (3, .int (0 : Int32))]) C [1, 2, 3, 0] 4 dX5_many_3 rfl (Nat.le_of_ble_eq_true rfl) rfl ?_
  refine wa_lv (lv' := [(1, .ref (a0 0)), (2, .int (0 : Int32)), (3, .int (0 : Int32))]) [1, 2, 3] rfl ?_
  exact w_X5_many_L4 C FUEL (0 : Int32) (0 : Int32) hf
def f_X5_leastOfEven_L45 (l2 : Int32) (z0 : Ob) : Nat → Int32 → Int32 → Int32 → Option (Int32)
  | 0, _, _, _ => none
  | n + 1, l3, l4, l5 => (if (9 : Int32) ≤ l5 then some (l3) else bnd (l4 ^^^ ((l2 >>> (l5 &&& 31)) &&& (1 : Int32))) (fun x3 => bnd (l3 + x3) (fun x4 => bnd (l5 + 1) (fun x5 => f_X5_leastOfEven_L45 l2 z0 n x4 x3 x5))))
def f_X5_leastOfEven_L4 (l1 : Int32) (z0 : Ob) : Nat → Int32 → Int32 → Option (Int32)
  | 0, _, _ => none
  | n + 1, l2, l3 => (if (z0.1 0) ≤ l3 then f_X5_leastOfEven_L45 l2 z0 FUEL (0 : Int32) (0 : Int32) (0 : Int32) else (if ((l1 >>> (l3 &&& 31)) &&& (1 : Int32)) = 0 then bnd (l3 + 1) (fun x7 => f_X5_leastOfEven_L4 l1 z0 n l2 x7) else grd (vi l3 12) (bnd (l2 ^^^ ((1 : Int32) <<< ((z0.2 1 (l3).toNatClampNeg) &&& 31))) (fun x9 => bnd (l3 + 1) (fun x10 => f_X5_leastOfEven_L4 l1 z0 n x9 x10)))))
def f_X5_leastOfEven (v0 : Ob) (p1 : Int32) : Option (Int32) := f_X5_leastOfEven_L4 p1 v0 FUEL (0 : Int32) (0 : Int32)
set_option maxRecDepth 20000 in
theorem w_X5_leastOfEven_L45 {p : Program} {l : Launch} {e : Env} {s : State} {m : MethodId} {args : Array Value} {below : List Frame} {meth : Method} {c : Code} {D : va_G} {A : Nat → Prop} {dT : Nat → ClassId} {a0 : Nat → Nat} {res : Int32} {l2 : Int32} {z0 : Ob} (C : Cx p s m args meth c cX5_leastOfEven 6 RX5 (some .int) D A dT) : ∀ (n : Nat) (l3 : Int32) (l4 : Int32) (l5 : Int32), f_X5_leastOfEven_L45 l2 z0 n l3 l4 l5 = some res → WA p l e ({ frames := 0, cells := 0, slots := 0, locals := 0 } : Room) s m args below meth c (MQ below (QI D dT A ([wV dT a0 z0]) res) args s 0 0 A) D A 0 0 6 45 ([wV dT a0 z0]) [(2, .int l2), (3, .int l3), (4, .int l4), (5, .int l5)] [] := by
  intro n
  induction n with
  | zero => intro l3 l4 l5 hf; cases hf
  | succ n ih =>
    intro l3 l4 l5 hf
    unfold f_X5_leastOfEven_L45 at hf
    refine wa_iload C 3 47 dX5_leastOfEven_45 rfl rfl ?_
    refine wa_bipush (v := 9) C 49 dX5_leastOfEven_47 rfl rfl ?_
    refine wa_icmp_ge C 74 52 dX5_leastOfEven_49 rfl rfl (fun c2 => ?_) (fun c2 => ?_)
    · replace hf := ite_t hf c2
      refine wa_iload_n C 1 75 dX5_leastOfEven_74 rfl rfl ?_
      cases hf
      exact wa_iret C dX5_leastOfEven_75 rfl rfl
    · replace hf := ite_f hf c2
      refine wa_iload C 2 54 dX5_leastOfEven_52 rfl rfl ?_
      refine wa_iload_n C 0 55 dX5_leastOfEven_54 rfl rfl ?_
      refine wa_iload C 3 57 dX5_leastOfEven_55 rfl rfl ?_
      refine wa_ishr C 58 dX5_leastOfEven_57 rfl ?_
      refine wa_iconst (v := 1) C 59 dX5_leastOfEven_58 rfl rfl ?_
      refine wa_iand C 60 dX5_leastOfEven_59 rfl ?_
      refine wa_ixor C 61 dX5_leastOfEven_60 rfl ?_
      obtain ⟨x3, ex3, hf⟩ := bnd_ex hf
      refine wa_topi ex3 ?_
      refine wa_istore (lv' := [(2, .int l2), (3, .int l3), (4, .int x3), (5, .int l5)]) C [1, 2, 0, 3] 63 dX5_leastOfEven_61 rfl (Nat.le_of_ble_eq_true rfl) rfl ?_
      refine wa_iload_n C 1 64 dX5_leastOfEven_63 rfl rfl ?_
      refine wa_iload C 2 66 dX5_leastOfEven_64 rfl rfl ?_
      refine wa_iadd C 67 dX5_leastOfEven_66 rfl ?_
      obtain ⟨x4, ex4, hf⟩ := bnd_ex hf
      refine wa_topi ex4 ?_
      refine wa_istore_n (lv' := [(2, .int l2), (3, .int x4), (4, .int x3), (5, .int l5)]) C [1, 0, 2, 3] 68 dX5_leastOfEven_67 rfl (Nat.le_of_ble_eq_true rfl) rfl ?_
      obtain ⟨x5, ex5, hf⟩ := bnd_ex hf
      refine wa_iinc (v := x5) (lv' := [(2, .int l2), (3, .int x4), (4, .int x3), (5, .int x5)]) C 3 [1, 2, 3, 0] 71 dX5_leastOfEven_68 rfl rfl (by rw [ex5]; rfl) (Nat.le_of_ble_eq_true rfl) rfl ?_
      refine wa_goto C 45 dX5_leastOfEven_71 rfl ?_
      exact ih x4 x3 x5 hf
set_option maxRecDepth 20000 in
theorem w_X5_leastOfEven_L4 {p : Program} {l : Launch} {e : Env} {s : State} {m : MethodId} {args : Array Value} {below : List Frame} {meth : Method} {c : Code} {D : va_G} {A : Nat → Prop} {dT : Nat → ClassId} {a0 : Nat → Nat} {res : Int32} {l1 : Int32} {z0 : Ob} (C : Cx p s m args meth c cX5_leastOfEven 6 RX5 (some .int) D A dT) : ∀ (n : Nat) (l2 : Int32) (l3 : Int32), f_X5_leastOfEven_L4 l1 z0 n l2 l3 = some res → WA p l e ({ frames := 0, cells := 0, slots := 0, locals := 0 } : Room) s m args below meth c (MQ below (QI D dT A ([wV dT a0 z0]) res) args s 0 0 A) D A 0 0 6 4 ([wV dT a0 z0]) [(0, .ref (a0 0)), (1, .int l1), (2, .int l2), (3, .int l3)] [] := by
  intro n
  induction n with
  | zero => intro l2 l3 hf; cases hf
  | succ n ih =>
    intro l2 l3 hf
    unfold f_X5_leastOfEven_L4 at hf
    refine wa_iload_n C 3 5 dX5_leastOfEven_4 rfl rfl ?_
    refine wa_aload_n C 0 6 dX5_leastOfEven_5 rfl rfl ?_
    refine wa_get C 9 0 0 0 dX5_leastOfEven_6 rfl iX10 q51 rfl (Nat.le_of_ble_eq_true rfl) rfl rfl rfl ?_
    refine wa_icmp_ge C 37 12 dX5_leastOfEven_9 rfl rfl (fun c1 => ?_) (fun c1 => ?_)
    · replace hf := ite_t hf c1
      refine wa_iconst (v := 0) C 38 dX5_leastOfEven_37 rfl rfl ?_
      refine wa_istore_n (lv' := [(0, .ref (a0 0)), (1, .int l1), (2, .int l2), (3, .int (0 : Int32))]) C [1, 2, 3, 0] 39 dX5_leastOfEven_38 rfl (Nat.le_of_ble_eq_true rfl) rfl ?_
      refine wa_iconst (v := 0) C 40 dX5_leastOfEven_39 rfl rfl ?_
      refine wa_istore (lv' := [(0, .ref (a0 0)), (1, .int l1), (2, .int l2), (3, .int (0 : Int32)), (4, .int (0 : Int32))]) C [1, 2, 3, 4, 0] 42 dX5_leastOfEven_40 rfl (Nat.le_of_ble_eq_true rfl) rfl ?_
      refine wa_iconst (v := 0) C 43 dX5_leastOfEven_42 rfl rfl ?_
      refine wa_istore (lv' := [(0, .ref (a0 0)), (1, .int l1), (2, .int l2), (3, .int (0 : Int32)), (4, .int (0 : Int32)), (5, .int (0 : Int32))]) C [1, 2, 3, 4, 5, 0] 45 dX5_leastOfEven_43 rfl (Nat.le_of_ble_eq_true rfl) rfl ?_
      refine wa_lv (lv' := [(2, .int l2), (3, .int (0 : Int32)), (4, .int (0 : Int32)), (5, .int (0 : Int32))]) [2, 3, 4, 5] rfl ?_
      exact w_X5_leastOfEven_L45 C FUEL (0 : Int32) (0 : Int32) (0 : Int32) hf
    · replace hf := ite_f hf c1
      refine wa_iload_n C 1 13 dX5_leastOfEven_12 rfl rfl ?_
      refine wa_iload_n C 3 14 dX5_leastOfEven_13 rfl rfl ?_
      refine wa_ishr C 15 dX5_leastOfEven_14 rfl ?_
      refine wa_iconst (v := 1) C 16 dX5_leastOfEven_15 rfl rfl ?_
      refine wa_iand C 17 dX5_leastOfEven_16 rfl ?_
      refine wa_if_eq C 31 20 dX5_leastOfEven_17 rfl rfl (fun c6 => ?_) (fun c6 => ?_)
      · replace hf := ite_t hf c6
        obtain ⟨x7, ex7, hf⟩ := bnd_ex hf
        refine wa_iinc (v := x7) (lv' := [(0, .ref (a0 0)), (1, .int l1), (2, .int l2), (3, .int x7)]) C 3 [1, 2, 3, 0] 34 dX5_leastOfEven_31 rfl rfl (by rw [ex7]; rfl) (Nat.le_of_ble_eq_true rfl) rfl ?_
        refine wa_goto C 4 dX5_leastOfEven_34 rfl ?_
        exact ih l2 x7 hf
      · replace hf := ite_f hf c6
        refine wa_iload_n C 2 21 dX5_leastOfEven_20 rfl rfl ?_
        refine wa_iconst (v := 1) C 22 dX5_leastOfEven_21 rfl rfl ?_
        refine wa_aload_n C 0 23 dX5_leastOfEven_22 rfl rfl ?_
        refine wa_get C 26 0 0 3 dX5_leastOfEven_23 rfl iX10 q67 rfl (Nat.le_of_ble_eq_true rfl) rfl rfl rfl ?_
        refine wa_iload_n C 3 27 dX5_leastOfEven_26 rfl rfl ?_
        obtain ⟨g8, hf⟩ := grd_ex hf
        refine wa_iald C 28 0 1 dX5_leastOfEven_27 rfl rfl rfl (vi_in g8) ?_
        refine wa_ishl C 29 dX5_leastOfEven_28 rfl ?_
        refine wa_ixor C 30 dX5_leastOfEven_29 rfl ?_
        obtain ⟨x9, ex9, hf⟩ := bnd_ex hf
        refine wa_topi ex9 ?_
        refine wa_istore_n (lv' := [(0, .ref (a0 0)), (1, .int l1), (2, .int x9), (3, .int l3)]) C [1, 2, 0, 3] 31 dX5_leastOfEven_30 rfl (Nat.le_of_ble_eq_true rfl) rfl ?_
        obtain ⟨x10, ex10, hf⟩ := bnd_ex hf
        refine wa_iinc (v := x10) (lv' := [(0, .ref (a0 0)), (1, .int l1), (2, .int x9), (3, .int x10)]) C 3 [1, 2, 3, 0] 34 dX5_leastOfEven_31 rfl rfl (by rw [ex10]; rfl) (Nat.le_of_ble_eq_true rfl) rfl ?_
        refine wa_goto C 4 dX5_leastOfEven_34 rfl ?_
        exact ih x9 x10 hf
set_option maxRecDepth 20000 in
theorem c_X5_leastOfEven {l : Launch} {D : va_G} {dT : Nat → ClassId} {a0 : Nat → Nat} {v0 : Ob} {p1 : Int32} {res : Int32} (hf : f_X5_leastOfEven v0 p1 = some res) : CTi l yX5_leastOfEven cX5_leastOfEven 6 (some .int) ({ frames := 0, cells := 0, slots := 0, locals := 0 } : Room) D dT [.ref (a0 0), .int p1] ([wV dT a0 v0]) ([wV dT a0 v0]) res := by
  refine CTi.of (by decide) (Nat.le_of_ble_eq_true rfl) rfl ?_
  intro p e s m args below meth c A C
  unfold f_X5_leastOfEven at hf
  refine wa_iconst (v := 0) C 1 dX5_leastOfEven_0 rfl rfl ?_
  refine wa_istore_n (lv' := [(0, .ref (a0 0)), (1, .int p1), (2, .int (0 : Int32))]) C [1, 2, 0] 2 dX5_leastOfEven_1 rfl (Nat.le_of_ble_eq_true rfl) rfl ?_
  refine wa_iconst (v := 0) C 3 dX5_leastOfEven_2 rfl rfl ?_
  refine wa_istore_n (lv' := [(0, .ref (a0 0)), (1, .int p1), (2, .int (0 : Int32)), (3, .int (0 : Int32))]) C [1, 2, 3, 0] 4 dX5_leastOfEven_3 rfl (Nat.le_of_ble_eq_true rfl) rfl ?_
  exact w_X5_leastOfEven_L4 C FUEL (0 : Int32) (0 : Int32) hf
theorem ks_X5_56 : KS RX5 56 yJ6_bitCount_0f7a4 cJ6_bitCount_0f7a4 1 (some .int) 1 := KS.mk q1031 q962 q25 q963 ⟨by decide, by decide, by decide +kernel⟩
theorem ks_X5_61 : KS RX5 61 yX5_leastOfEven cX5_leastOfEven 6 (some .int) 2 := KS.mk q1032 q1033 q11 q1034 ⟨by decide, by decide, by decide +kernel⟩
def f_X5_least_L21 (l1 : Int32) (z0 : Ob) : Nat → Int32 → Int32 → Option (Int32)
  | 0, _, _ => none
  | n + 1, l2, l3 => (if (z0.1 0) ≤ l3 then some (l2) else (if ((l1 >>> (l3 &&& 31)) &&& (1 : Int32)) = 0 then bnd (l3 + 1) (fun x5 => f_X5_least_L21 l1 z0 n l2 x5) else (f_X5_leastOfEven z0 (l1 &&& (((1 : Int32) <<< (l3 &&& 31)) ^^^ (-1 : Int32)))).bind (fun q6 => bnd (if q6 < l2 then q6 else l2) (fun x7 => bnd (l3 + 1) (fun x8 => f_X5_least_L21 l1 z0 n x7 x8)))))
def f_X5_least (v0 : Ob) (p1 : Int32) : Option (Int32) := (f_J6_bitCount_0f7a4 p1).bind (fun q1 => (if (q1 - q1 / (2 : Int32) * (2 : Int32)) = 0 then (f_X5_leastOfEven v0 p1).bind (fun q9 => some (q9)) else f_X5_least_L21 p1 v0 FUEL (1000 : Int32) (0 : Int32)))
set_option maxRecDepth 20000 in
theorem w_X5_least_L21 {p : Program} {l : Launch} {e : Env} {s : State} {m : MethodId} {args : Array Value} {below : List Frame} {meth : Method} {c : Code} {D : va_G} {A : Nat → Prop} {dT : Nat → ClassId} {a0 : Nat → Nat} {res : Int32} {l1 : Int32} {z0 : Ob} (C : Cx p s m args meth c cX5_least 4 RX5 (some .int) D A dT) : ∀ (n : Nat) (l2 : Int32) (l3 : Int32), f_X5_least_L21 l1 z0 n l2 l3 = some res → WA p l e ({ frames := 3, cells := 0, slots := 0, locals := 60 } : Room) s m args below meth c (MQ below (QI D dT A ([wV dT a0 z0]) res) args s 0 0 A) D A 0 0 4 21 ([wV dT a0 z0]) [(0, .ref (a0 0)), (1, .int l1), (2, .int l2), (3, .int l3)] [] := by
  intro n
  induction n with
  | zero => intro l2 l3 hf; cases hf
  | succ n ih =>
    intro l2 l3 hf
    unfold f_X5_least_L21 at hf
    refine wa_iload_n C 3 22 dX5_least_21 rfl rfl ?_
    refine wa_aload_n C 0 23 dX5_least_22 rfl rfl ?_
    refine wa_get C 26 0 0 0 dX5_least_23 rfl iX10 q51 rfl (Nat.le_of_ble_eq_true rfl) rfl rfl rfl ?_
    refine wa_icmp_ge C 59 29 dX5_least_26 rfl rfl (fun c3 => ?_) (fun c3 => ?_)
    · replace hf := ite_t hf c3
      refine wa_iload_n C 2 60 dX5_least_59 rfl rfl ?_
      cases hf
      exact wa_iret C dX5_least_60 rfl rfl
    · replace hf := ite_f hf c3
      refine wa_iload_n C 1 30 dX5_least_29 rfl rfl ?_
      refine wa_iload_n C 3 31 dX5_least_30 rfl rfl ?_
      refine wa_ishr C 32 dX5_least_31 rfl ?_
      refine wa_iconst (v := 1) C 33 dX5_least_32 rfl rfl ?_
      refine wa_iand C 34 dX5_least_33 rfl ?_
      refine wa_if_eq C 53 37 dX5_least_34 rfl rfl (fun c4 => ?_) (fun c4 => ?_)
      · replace hf := ite_t hf c4
        obtain ⟨x5, ex5, hf⟩ := bnd_ex hf
        refine wa_iinc (v := x5) (lv' := [(0, .ref (a0 0)), (1, .int l1), (2, .int l2), (3, .int x5)]) C 3 [1, 2, 3, 0] 56 dX5_least_53 rfl rfl (by rw [ex5]; rfl) (Nat.le_of_ble_eq_true rfl) rfl ?_
        refine wa_goto C 21 dX5_least_56 rfl ?_
        exact ih l2 x5 hf
      · replace hf := ite_f hf c4
        refine wa_iload_n C 2 38 dX5_least_37 rfl rfl ?_
        refine wa_aload_n C 0 39 dX5_least_38 rfl rfl ?_
        refine wa_iload_n C 1 40 dX5_least_39 rfl rfl ?_
        refine wa_iconst (v := 1) C 41 dX5_least_40 rfl rfl ?_
        refine wa_iload_n C 3 42 dX5_least_41 rfl rfl ?_
        refine wa_ishl C 43 dX5_least_42 rfl ?_
        refine wa_iconst (v := (-1)) C 44 dX5_least_43 rfl rfl ?_
        refine wa_ixor C 45 dX5_least_44 rfl ?_
        refine wa_iand C 46 dX5_least_45 rfl ?_
        obtain ⟨q6, hq6, hf⟩ := bind_ex hf
        refine wa_callSAi (As := [.ref (a0 0), .int (l1 &&& (((1 : Int32) <<< (l3 &&& 31)) ^^^ (-1 : Int32)))]) C 49 dX5_least_46 rfl ks_X5_61 (c_X5_leastOfEven hq6) ⟨rfl, rfl⟩ ⟨Nat.le_of_ble_eq_true rfl, Nat.le_of_ble_eq_true rfl⟩ rfl rfl ⟨Nat.zero_le _, Nat.zero_le _⟩ (Nat.le_of_ble_eq_true rfl) ?_
        refine wa_mmin C 52 dX5_least_49 rfl q1035 q503 q18 q504 (Nat.le_of_ble_eq_true rfl) (Nat.le_of_ble_eq_true rfl) ⟨Nat.zero_le _, Nat.zero_le _⟩ ?_
        obtain ⟨x7, ex7, hf⟩ := bnd_ex hf
        refine wa_topi ex7 ?_
        refine wa_istore_n (lv' := [(0, .ref (a0 0)), (1, .int l1), (2, .int x7), (3, .int l3)]) C [1, 2, 0, 3] 53 dX5_least_52 rfl (Nat.le_of_ble_eq_true rfl) rfl ?_
        obtain ⟨x8, ex8, hf⟩ := bnd_ex hf
        refine wa_iinc (v := x8) (lv' := [(0, .ref (a0 0)), (1, .int l1), (2, .int x7), (3, .int x8)]) C 3 [1, 2, 3, 0] 56 dX5_least_53 rfl rfl (by rw [ex8]; rfl) (Nat.le_of_ble_eq_true rfl) rfl ?_
        refine wa_goto C 21 dX5_least_56 rfl ?_
        exact ih x7 x8 hf
set_option maxRecDepth 20000 in
theorem c_X5_least {l : Launch} {D : va_G} {dT : Nat → ClassId} {a0 : Nat → Nat} {v0 : Ob} {p1 : Int32} {res : Int32} (hf : f_X5_least v0 p1 = some res) : CTi l yX5_least cX5_least 4 (some .int) ({ frames := 3, cells := 0, slots := 0, locals := 60 } : Room) D dT [.ref (a0 0), .int p1] ([wV dT a0 v0]) ([wV dT a0 v0]) res := by
  refine CTi.of (by decide) (Nat.le_of_ble_eq_true rfl) rfl ?_
  intro p e s m args below meth c A C
  unfold f_X5_least at hf
  refine wa_iload_n C 1 1 dX5_least_0 rfl rfl ?_
  obtain ⟨q1, hq1, hf⟩ := bind_ex hf
  refine wa_callS0i (As := [.int p1]) C 4 dX5_least_1 rfl ks_X5_56 (c_J6_bitCount_0f7a4 hq1) ⟨rfl, rfl⟩ ⟨Nat.le_of_ble_eq_true rfl, Nat.le_of_ble_eq_true rfl⟩ rfl rfl ⟨Nat.zero_le _, Nat.zero_le _⟩ (Nat.le_of_ble_eq_true rfl) ?_
  refine wa_iconst (v := 2) C 5 dX5_least_4 rfl rfl ?_
  refine wa_irem C 6 dX5_least_5 rfl (by decide) ?_
  refine wa_if_ne C 15 9 dX5_least_6 rfl rfl (fun c2 => ?_) (fun c2 => ?_)
  · replace hf := ite_f hf c2
    refine wa_sipush (v := 1000) C 18 dX5_least_15 rfl rfl ?_
    refine wa_istore_n (lv' := [(0, .ref (a0 0)), (1, .int p1), (2, .int (1000 : Int32))]) C [1, 2, 0] 19 dX5_least_18 rfl (Nat.le_of_ble_eq_true rfl) rfl ?_
    refine wa_iconst (v := 0) C 20 dX5_least_19 rfl rfl ?_
    refine wa_istore_n (lv' := [(0, .ref (a0 0)), (1, .int p1), (2, .int (1000 : Int32)), (3, .int (0 : Int32))]) C [1, 2, 3, 0] 21 dX5_least_20 rfl (Nat.le_of_ble_eq_true rfl) rfl ?_
    exact w_X5_least_L21 C FUEL (1000 : Int32) (0 : Int32) hf
  · replace hf := ite_t hf c2
    refine wa_aload_n C 0 10 dX5_least_9 rfl rfl ?_
    refine wa_iload_n C 1 11 dX5_least_10 rfl rfl ?_
    obtain ⟨q9, hq9, hf⟩ := bind_ex hf
    refine wa_callSAi (As := [.ref (a0 0), .int p1]) C 14 dX5_least_11 rfl ks_X5_61 (c_X5_leastOfEven hq9) ⟨rfl, rfl⟩ ⟨Nat.le_of_ble_eq_true rfl, Nat.le_of_ble_eq_true rfl⟩ rfl rfl ⟨Nat.zero_le _, Nat.zero_le _⟩ (Nat.le_of_ble_eq_true rfl) ?_
    cases hf
    exact wa_iret C dX5_least_14 rfl rfl
theorem ks_X5_28 : KS RX5 28 yX5_least cX5_least 4 (some .int) 2 := KS.mk q1028 q1029 q11 q1030 ⟨by decide, by decide, by decide +kernel⟩
theorem kv_X5_24 : KV RX5 24 yX10_dwellers cX10_dwellers 4 (some .int) 1 := KV.mk q1024 q544 q545 q3 q546 ⟨by decide, by decide, by decide +kernel⟩
def f_X5_difference_L4 (z0 : Ob) (z1 : Ob) : Nat → Int32 → Int32 → Option (Int32)
  | 0, _, _ => none
  | n + 1, l2, l3 => (if (z1.1 1) ≤ l3 then some (l2) else (f_X10_dwellers z1 l3).bind (fun q2 => (f_X5_least z1 q2).bind (fun q3 => bnd (l2 + q3) (fun x4 => bnd (l3 + 1) (fun x5 => f_X5_difference_L4 z0 z1 n x4 x5)))))
def f_X5_difference (v : Ob) (v0 : Ob) : Option (Int32) := f_X5_difference_L4 v v0 FUEL (0 : Int32) (0 : Int32)
set_option maxRecDepth 20000 in
theorem w_X5_difference_L4 {p : Program} {l : Launch} {e : Env} {s : State} {m : MethodId} {args : Array Value} {below : List Frame} {meth : Method} {c : Code} {D : va_G} {A : Nat → Prop} {dT : Nat → ClassId} {a : Nat → Nat} {a0 : Nat → Nat} {res : Int32} {z0 : Ob} {z1 : Ob} (C : Cx p s m args meth c cX5_difference 4 RX5 (some .int) D A dT) : ∀ (n : Nat) (l2 : Int32) (l3 : Int32), f_X5_difference_L4 z0 z1 n l2 l3 = some res → WA p l e ({ frames := 4, cells := 0, slots := 0, locals := 83 } : Room) s m args below meth c (MQ below (QI D dT A ([wP dT a z0, wV dT a0 z1]) res) args s 0 0 A) D A 0 0 4 4 ([wP dT a z0, wV dT a0 z1]) [(1, .ref (a0 0)), (2, .int l2), (3, .int l3)] [] := by
  intro n
  induction n with
  | zero => intro l2 l3 hf; cases hf
  | succ n ih =>
    intro l2 l3 hf
    unfold f_X5_difference_L4 at hf
    refine wa_iload_n C 2 5 dX5_difference_4 rfl rfl ?_
    refine wa_aload_n C 0 6 dX5_difference_5 rfl rfl ?_
    refine wa_get C 9 1 0 1 dX5_difference_6 rfl iX10 q57 rfl (Nat.le_of_ble_eq_true rfl) rfl rfl rfl ?_
    refine wa_icmp_ge C 30 12 dX5_difference_9 rfl rfl (fun c1 => ?_) (fun c1 => ?_)
    · replace hf := ite_t hf c1
      refine wa_iload_n C 1 31 dX5_difference_30 rfl rfl ?_
      cases hf
      exact wa_iret C dX5_difference_31 rfl rfl
    · replace hf := ite_f hf c1
      refine wa_iload_n C 1 13 dX5_difference_12 rfl rfl ?_
      refine wa_aload_n C 0 14 dX5_difference_13 rfl rfl ?_
      refine wa_aload_n C 0 15 dX5_difference_14 rfl rfl ?_
      refine wa_iload_n C 2 16 dX5_difference_15 rfl rfl ?_
      obtain ⟨q2, hq2, hf⟩ := bind_ex hf
      refine wa_callVi (b1 := 1) (q1 := 0) (ci := 10) (ws' := [wP dT a z0, wV dT a0 z1]) (As := [.int l3]) C 19 dX5_difference_16 rfl kv_X5_24 (c_X10_dwellers hq2) ⟨rfl, rfl⟩ ⟨Nat.le_of_ble_eq_true rfl, Nat.le_of_ble_eq_true rfl⟩ rfl rfl rfl [1] [0] [0, 1] rfl rfl rfl rfl (by decide) rfl rfl rfl rfl ⟨Nat.zero_le _, Nat.zero_le _⟩ (Nat.le_of_ble_eq_true rfl) ?_
      obtain ⟨q3, hq3, hf⟩ := bind_ex hf
      refine wa_callSi (ws' := [wP dT a z0, wV dT a0 z1]) (As := [.ref (a0 0), .int q2]) C 22 dX5_difference_19 rfl ks_X5_28 (c_X5_least hq3) ⟨rfl, rfl⟩ ⟨Nat.le_of_ble_eq_true rfl, Nat.le_of_ble_eq_true rfl⟩ [1] [0] [0, 1] rfl rfl rfl rfl (by decide) rfl rfl rfl rfl ⟨Nat.zero_le _, Nat.zero_le _⟩ (Nat.le_of_ble_eq_true rfl) ?_
      refine wa_iadd C 23 dX5_difference_22 rfl ?_
      obtain ⟨x4, ex4, hf⟩ := bnd_ex hf
      refine wa_topi ex4 ?_
      refine wa_istore_n (lv' := [(1, .ref (a0 0)), (2, .int x4), (3, .int l3)]) C [1, 0, 2] 24 dX5_difference_23 rfl (Nat.le_of_ble_eq_true rfl) rfl ?_
      obtain ⟨x5, ex5, hf⟩ := bnd_ex hf
      refine wa_iinc (v := x5) (lv' := [(1, .ref (a0 0)), (2, .int x4), (3, .int x5)]) C 2 [1, 2, 0] 27 dX5_difference_24 rfl rfl (by rw [ex5]; rfl) (Nat.le_of_ble_eq_true rfl) rfl ?_
      refine wa_goto C 4 dX5_difference_27 rfl ?_
      exact ih x4 x5 hf
set_option maxRecDepth 20000 in
theorem c_X5_difference {l : Launch} {D : va_G} {dT : Nat → ClassId} {a : Nat → Nat} {a0 : Nat → Nat} {v : Ob} {v0 : Ob} {res : Int32} (hf : f_X5_difference v v0 = some res) : CTi l yX5_difference cX5_difference 4 (some .int) ({ frames := 4, cells := 0, slots := 0, locals := 83 } : Room) D dT [.ref (a 0), .ref (a0 0)] ([wP dT a v, wV dT a0 v0]) ([wP dT a v, wV dT a0 v0]) res := by
  refine CTi.of (by decide) (Nat.le_of_ble_eq_true rfl) rfl ?_
  intro p e s m args below meth c A C
  unfold f_X5_difference at hf
  refine wa_iconst (v := 0) C 1 dX5_difference_0 rfl rfl ?_
  refine wa_istore_n (lv' := [(0, .ref (a 0)), (1, .ref (a0 0)), (2, .int (0 : Int32))]) C [1, 2, 0] 2 dX5_difference_1 rfl (Nat.le_of_ble_eq_true rfl) rfl ?_
  refine wa_iconst (v := 0) C 3 dX5_difference_2 rfl rfl ?_
  refine wa_istore_n (lv' := [(0, .ref (a 0)), (1, .ref (a0 0)), (2, .int (0 : Int32)), (3, .int (0 : Int32))]) C [1, 2, 3, 0] 4 dX5_difference_3 rfl (Nat.le_of_ble_eq_true rfl) rfl ?_
  refine wa_lv (lv' := [(1, .ref (a0 0)), (2, .int (0 : Int32)), (3, .int (0 : Int32))]) [1, 2, 3] rfl ?_
  exact w_X5_difference_L4 C FUEL (0 : Int32) (0 : Int32) hf
def f_X5_firstPartner_L11 (l1 : Int32) (l2 : Int32) (l3 : Int32) (z0 : Ob) : Nat → Int32 → Option (Int32)
  | 0, _ => none
  | n + 1, l4 => (if (z0.1 0) ≤ l4 then some ((-1 : Int32)) else (if ((l2 >>> (l4 &&& 31)) &&& (1 : Int32)) = 0 then bnd (l4 + 1) (fun x5 => f_X5_firstPartner_L11 l1 l2 l3 z0 n x5) else grd (vi l1 12) (grd (vi l4 12) (bnd (if 0 ≤ ((z0.2 1 (l1).toNatClampNeg) - (z0.2 1 (l4).toNatClampNeg)) then ((z0.2 1 (l1).toNatClampNeg) - (z0.2 1 (l4).toNatClampNeg)) else 0 - ((z0.2 1 (l1).toNatClampNeg) - (z0.2 1 (l4).toNatClampNeg))) (fun x8 => (f_X5_least z0 ((l2 &&& (((1 : Int32) <<< (l1 &&& 31)) ^^^ (-1 : Int32))) &&& (((1 : Int32) <<< (l4 &&& 31)) ^^^ (-1 : Int32)))).bind (fun q9 => (if (x8 + q9) = l3 then some (l4) else bnd (l4 + 1) (fun x11 => f_X5_firstPartner_L11 l1 l2 l3 z0 n x11))))))))
def f_X5_firstPartner (v0 : Ob) (p1 : Int32) (p2 : Int32) : Option (Int32) := (f_X5_least v0 p2).bind (fun q1 => bnd (p1 + (1 : Int32)) (fun x2 => f_X5_firstPartner_L11 p1 p2 q1 v0 FUEL x2))
set_option maxRecDepth 20000 in
theorem w_X5_firstPartner_L11 {p : Program} {l : Launch} {e : Env} {s : State} {m : MethodId} {args : Array Value} {below : List Frame} {meth : Method} {c : Code} {D : va_G} {A : Nat → Prop} {dT : Nat → ClassId} {a0 : Nat → Nat} {res : Int32} {l1 : Int32} {l2 : Int32} {l3 : Int32} {z0 : Ob} (C : Cx p s m args meth c cX5_firstPartner 6 RX5 (some .int) D A dT) : ∀ (n : Nat) (l4 : Int32), f_X5_firstPartner_L11 l1 l2 l3 z0 n l4 = some res → WA p l e ({ frames := 4, cells := 0, slots := 0, locals := 83 } : Room) s m args below meth c (MQ below (QI D dT A ([wV dT a0 z0]) res) args s 0 0 A) D A 0 0 6 11 ([wV dT a0 z0]) [(0, .ref (a0 0)), (1, .int l1), (2, .int l2), (3, .int l3), (4, .int l4)] [] := by
  intro n
  induction n with
  | zero => intro l4 hf; cases hf
  | succ n ih =>
    intro l4 hf
    unfold f_X5_firstPartner_L11 at hf
    refine wa_iload C 4 13 dX5_firstPartner_11 rfl rfl ?_
    refine wa_aload_n C 0 14 dX5_firstPartner_13 rfl rfl ?_
    refine wa_get C 17 0 0 0 dX5_firstPartner_14 rfl iX10 q51 rfl (Nat.le_of_ble_eq_true rfl) rfl rfl rfl ?_
    refine wa_icmp_ge C 82 20 dX5_firstPartner_17 rfl rfl (fun c3 => ?_) (fun c3 => ?_)
    · replace hf := ite_t hf c3
      refine wa_iconst (v := (-1)) C 83 dX5_firstPartner_82 rfl rfl ?_
      cases hf
      exact wa_iret C dX5_firstPartner_83 rfl rfl
    · replace hf := ite_f hf c3
      refine wa_iload_n C 2 21 dX5_firstPartner_20 rfl rfl ?_
      refine wa_iload C 4 23 dX5_firstPartner_21 rfl rfl ?_
      refine wa_ishr C 24 dX5_firstPartner_23 rfl ?_
      refine wa_iconst (v := 1) C 25 dX5_firstPartner_24 rfl rfl ?_
      refine wa_iand C 26 dX5_firstPartner_25 rfl ?_
      refine wa_if_eq C 76 29 dX5_firstPartner_26 rfl rfl (fun c4 => ?_) (fun c4 => ?_)
      · replace hf := ite_t hf c4
        obtain ⟨x5, ex5, hf⟩ := bnd_ex hf
        refine wa_iinc (v := x5) (lv' := [(0, .ref (a0 0)), (1, .int l1), (2, .int l2), (3, .int l3), (4, .int x5)]) C 4 [1, 2, 3, 4, 0] 79 dX5_firstPartner_76 rfl rfl (by rw [ex5]; rfl) (Nat.le_of_ble_eq_true rfl) rfl ?_
        refine wa_goto C 11 dX5_firstPartner_79 rfl ?_
        exact ih x5 hf
      · replace hf := ite_f hf c4
        refine wa_aload_n C 0 30 dX5_firstPartner_29 rfl rfl ?_
        refine wa_get C 33 0 0 3 dX5_firstPartner_30 rfl iX10 q67 rfl (Nat.le_of_ble_eq_true rfl) rfl rfl rfl ?_
        refine wa_iload_n C 1 34 dX5_firstPartner_33 rfl rfl ?_
        obtain ⟨g6, hf⟩ := grd_ex hf
        refine wa_iald C 35 0 1 dX5_firstPartner_34 rfl rfl rfl (vi_in g6) ?_
        refine wa_aload_n C 0 36 dX5_firstPartner_35 rfl rfl ?_
        refine wa_get C 39 0 0 3 dX5_firstPartner_36 rfl iX10 q67 rfl (Nat.le_of_ble_eq_true rfl) rfl rfl rfl ?_
        refine wa_iload C 4 41 dX5_firstPartner_39 rfl rfl ?_
        obtain ⟨g7, hf⟩ := grd_ex hf
        refine wa_iald C 42 0 1 dX5_firstPartner_41 rfl rfl rfl (vi_in g7) ?_
        refine wa_isub C 43 dX5_firstPartner_42 rfl ?_
        refine wa_mabs C 46 dX5_firstPartner_43 rfl q1036 q1037 q18 q1038 (Nat.le_of_ble_eq_true rfl) (Nat.le_of_ble_eq_true rfl) ⟨Nat.zero_le _, Nat.zero_le _⟩ ?_
        obtain ⟨x8, ex8, hf⟩ := bnd_ex hf
        refine wa_topi ex8 ?_
        refine wa_istore (lv' := [(0, .ref (a0 0)), (1, .int l1), (2, .int l2), (3, .int l3), (4, .int l4), (5, .int x8)]) C [1, 2, 3, 4, 5, 0] 48 dX5_firstPartner_46 rfl (Nat.le_of_ble_eq_true rfl) rfl ?_
        refine wa_iload C 5 50 dX5_firstPartner_48 rfl rfl ?_
        refine wa_aload_n C 0 51 dX5_firstPartner_50 rfl rfl ?_
        refine wa_iload_n C 2 52 dX5_firstPartner_51 rfl rfl ?_
        refine wa_iconst (v := 1) C 53 dX5_firstPartner_52 rfl rfl ?_
        refine wa_iload_n C 1 54 dX5_firstPartner_53 rfl rfl ?_
        refine wa_ishl C 55 dX5_firstPartner_54 rfl ?_
        refine wa_iconst (v := (-1)) C 56 dX5_firstPartner_55 rfl rfl ?_
        refine wa_ixor C 57 dX5_firstPartner_56 rfl ?_
        refine wa_iand C 58 dX5_firstPartner_57 rfl ?_
        refine wa_iconst (v := 1) C 59 dX5_firstPartner_58 rfl rfl ?_
        refine wa_iload C 4 61 dX5_firstPartner_59 rfl rfl ?_
        refine wa_ishl C 62 dX5_firstPartner_61 rfl ?_
        refine wa_iconst (v := (-1)) C 63 dX5_firstPartner_62 rfl rfl ?_
        refine wa_ixor C 64 dX5_firstPartner_63 rfl ?_
        refine wa_iand C 65 dX5_firstPartner_64 rfl ?_
        obtain ⟨q9, hq9, hf⟩ := bind_ex hf
        refine wa_callSAi (As := [.ref (a0 0), .int ((l2 &&& (((1 : Int32) <<< (l1 &&& 31)) ^^^ (-1 : Int32))) &&& (((1 : Int32) <<< (l4 &&& 31)) ^^^ (-1 : Int32)))]) C 68 dX5_firstPartner_65 rfl ks_X5_28 (c_X5_least hq9) ⟨rfl, rfl⟩ ⟨Nat.le_of_ble_eq_true rfl, Nat.le_of_ble_eq_true rfl⟩ rfl rfl ⟨Nat.zero_le _, Nat.zero_le _⟩ (Nat.le_of_ble_eq_true rfl) ?_
        refine wa_iadd C 69 dX5_firstPartner_68 rfl ?_
        refine wa_iload_n C 3 70 dX5_firstPartner_69 rfl rfl ?_
        refine wa_icmp_ne C 76 73 dX5_firstPartner_70 rfl rfl (fun c10 => ?_) (fun c10 => ?_)
        · replace hf := ite_f hf c10
          obtain ⟨x11, ex11, hf⟩ := bnd_ex hf
          refine wa_iinc (v := x11) (lv' := [(0, .ref (a0 0)), (1, .int l1), (2, .int l2), (3, .int l3), (4, .int x11), (5, .int x8)]) C 4 [1, 2, 3, 4, 0, 5] 79 dX5_firstPartner_76 rfl rfl (by rw [ex11]; rfl) (Nat.le_of_ble_eq_true rfl) rfl ?_
          refine wa_goto C 11 dX5_firstPartner_79 rfl ?_
          refine wa_lv (lv' := [(0, .ref (a0 0)), (1, .int l1), (2, .int l2), (3, .int l3), (4, .int x11)]) [0, 1, 2, 3, 4] rfl ?_
          exact ih x11 hf
        · replace hf := ite_t hf c10
          refine wa_iload C 4 75 dX5_firstPartner_73 rfl rfl ?_
          cases hf
          exact wa_iret C dX5_firstPartner_75 rfl rfl
set_option maxRecDepth 20000 in
theorem c_X5_firstPartner {l : Launch} {D : va_G} {dT : Nat → ClassId} {a0 : Nat → Nat} {v0 : Ob} {p1 : Int32} {p2 : Int32} {res : Int32} (hf : f_X5_firstPartner v0 p1 p2 = some res) : CTi l yX5_firstPartner cX5_firstPartner 6 (some .int) ({ frames := 4, cells := 0, slots := 0, locals := 83 } : Room) D dT [.ref (a0 0), .int p1, .int p2] ([wV dT a0 v0]) ([wV dT a0 v0]) res := by
  refine CTi.of (by decide) (Nat.le_of_ble_eq_true rfl) rfl ?_
  intro p e s m args below meth c A C
  unfold f_X5_firstPartner at hf
  refine wa_aload_n C 0 1 dX5_firstPartner_0 rfl rfl ?_
  refine wa_iload_n C 2 2 dX5_firstPartner_1 rfl rfl ?_
  obtain ⟨q1, hq1, hf⟩ := bind_ex hf
  refine wa_callSAi (As := [.ref (a0 0), .int p2]) C 5 dX5_firstPartner_2 rfl ks_X5_28 (c_X5_least hq1) ⟨rfl, rfl⟩ ⟨Nat.le_of_ble_eq_true rfl, Nat.le_of_ble_eq_true rfl⟩ rfl rfl ⟨Nat.zero_le _, Nat.zero_le _⟩ (Nat.le_of_ble_eq_true rfl) ?_
  refine wa_istore_n (lv' := [(0, .ref (a0 0)), (1, .int p1), (2, .int p2), (3, .int q1)]) C [1, 2, 3, 0] 6 dX5_firstPartner_5 rfl (Nat.le_of_ble_eq_true rfl) rfl ?_
  refine wa_iload_n C 1 7 dX5_firstPartner_6 rfl rfl ?_
  refine wa_iconst (v := 1) C 8 dX5_firstPartner_7 rfl rfl ?_
  refine wa_iadd C 9 dX5_firstPartner_8 rfl ?_
  obtain ⟨x2, ex2, hf⟩ := bnd_ex hf
  refine wa_topi ex2 ?_
  refine wa_istore (lv' := [(0, .ref (a0 0)), (1, .int p1), (2, .int p2), (3, .int q1), (4, .int x2)]) C [1, 2, 3, 4, 0] 11 dX5_firstPartner_9 rfl (Nat.le_of_ble_eq_true rfl) rfl ?_
  exact w_X5_firstPartner_L11 C FUEL x2 hf
theorem ks_X5_32 : KS RX5 32 yJ7_fill_53178 cJ7_fill_53178 4 none 2 := KS.mk q1023 q472 q27 q473 ⟨by decide, by decide, by decide +kernel⟩
theorem ks_X5_44 : KS RX5 44 yX5_firstPartner cX5_firstPartner 6 (some .int) 3 := KS.mk q1025 q1026 q11 q1027 ⟨by decide, by decide, by decide +kernel⟩
def f_X5_partnerOf_L20 (l2 : Int32) (z1 : Ob) : Nat → Int32 → Int32 → Ob → Option (Int32 × Ob)
  | 0, _, _, _ => none
  | n + 1, l3, l4, z0 => (if (z1.1 0) ≤ l4 then grd (vi l2 12) (some ((z0.2 1 (l2).toNatClampNeg), z0)) else (if ((l3 >>> (l4 &&& 31)) &&& (1 : Int32)) = 0 then bnd (l4 + 1) (fun x7 => f_X5_partnerOf_L20 l2 z1 n l3 x7 z0) else grd (vi l4 12) ((f_X10_dwellers z1 (z1.2 2 (l4).toNatClampNeg)).bind (fun q9 => (f_X5_firstPartner z1 l4 (q9 &&& l3)).bind (fun q10 => bnd (l3 &&& (((1 : Int32) <<< (l4 &&& 31)) ^^^ (-1 : Int32))) (fun x11 => (if q10 = (-1 : Int32) then bnd (l4 + 1) (fun x13 => f_X5_partnerOf_L20 l2 z1 n x11 x13 z0) else grd (vi l4 12) (bnd (z0.1, uA z0.2 1 (l4).toNatClampNeg q10) (fun y15 => grd (vi q10 12) (bnd (y15.1, uA y15.2 1 (q10).toNatClampNeg l4) (fun y17 => bnd (x11 &&& (((1 : Int32) <<< (q10 &&& 31)) ^^^ (-1 : Int32))) (fun x18 => bnd (l4 + 1) (fun x19 => f_X5_partnerOf_L20 l2 z1 n x18 x19 y17)))))))))))))
def f_X5_partnerOf (v : Ob) (v0 : Ob) (p1 : Int32) : Option (Int32 × Ob) := (f_J7_fill_53178 (v.2 1) 12 (-1 : Int32)).bind (fun q1 => bnd (v.1, sA v.2 1 q1) (fun y2 => bnd (((1 : Int32) <<< ((v0.1 0) &&& 31)) - (1 : Int32)) (fun x3 => f_X5_partnerOf_L20 p1 v0 FUEL x3 (0 : Int32) y2)))
set_option maxRecDepth 20000 in
theorem w_X5_partnerOf_L20 {p : Program} {l : Launch} {e : Env} {s : State} {m : MethodId} {args : Array Value} {below : List Frame} {meth : Method} {c : Code} {D : va_G} {A : Nat → Prop} {dT : Nat → ClassId} {a : Nat → Nat} {a0 : Nat → Nat} {res : Int32 × Ob} {l2 : Int32} {z1 : Ob} (C : Cx p s m args meth c cX5_partnerOf 6 RX5 (some .int) D A dT) : ∀ (n : Nat) (l3 : Int32) (l4 : Int32) (z0 : Ob), f_X5_partnerOf_L20 l2 z1 n l3 l4 z0 = some res → WA p l e ({ frames := 5, cells := 0, slots := 0, locals := 108 } : Room) s m args below meth c (MQ below (QI D dT A ([wP dT a res.2, wV dT a0 z1]) res.1) args s 0 0 A) D A 0 0 6 20 ([wP dT a z0, wV dT a0 z1]) [(0, .ref (a 0)), (1, .ref (a0 0)), (2, .int l2), (3, .int l3), (4, .int l4)] [] := by
  intro n
  induction n with
  | zero => intro l3 l4 z0 hf; cases hf
  | succ n ih =>
    intro l3 l4 z0 hf
    unfold f_X5_partnerOf_L20 at hf
    refine wa_iload C 4 22 dX5_partnerOf_20 rfl rfl ?_
    refine wa_aload_n C 1 23 dX5_partnerOf_22 rfl rfl ?_
    refine wa_get C 26 1 0 0 dX5_partnerOf_23 rfl iX10 q51 rfl (Nat.le_of_ble_eq_true rfl) rfl rfl rfl ?_
    refine wa_icmp_ge C 107 29 dX5_partnerOf_26 rfl rfl (fun c4 => ?_) (fun c4 => ?_)
    · replace hf := ite_t hf c4
      refine wa_aload_n C 0 108 dX5_partnerOf_107 rfl rfl ?_
      refine wa_get C 111 0 0 0 dX5_partnerOf_108 rfl iX5 q313 rfl (Nat.le_of_ble_eq_true rfl) rfl rfl rfl ?_
      refine wa_iload_n C 2 112 dX5_partnerOf_111 rfl rfl ?_
      obtain ⟨g5, hf⟩ := grd_ex hf
      refine wa_iald C 113 0 1 dX5_partnerOf_112 rfl rfl rfl (vi_in g5) ?_
      cases hf
      exact wa_iret C dX5_partnerOf_113 rfl rfl
    · replace hf := ite_f hf c4
      refine wa_iload_n C 3 30 dX5_partnerOf_29 rfl rfl ?_
      refine wa_iload C 4 32 dX5_partnerOf_30 rfl rfl ?_
      refine wa_ishr C 33 dX5_partnerOf_32 rfl ?_
      refine wa_iconst (v := 1) C 34 dX5_partnerOf_33 rfl rfl ?_
      refine wa_iand C 35 dX5_partnerOf_34 rfl ?_
      refine wa_if_eq C 101 38 dX5_partnerOf_35 rfl rfl (fun c6 => ?_) (fun c6 => ?_)
      · replace hf := ite_t hf c6
        obtain ⟨x7, ex7, hf⟩ := bnd_ex hf
        refine wa_iinc (v := x7) (lv' := [(0, .ref (a 0)), (1, .ref (a0 0)), (2, .int l2), (3, .int l3), (4, .int x7)]) C 4 [1, 2, 3, 4, 0] 104 dX5_partnerOf_101 rfl rfl (by rw [ex7]; rfl) (Nat.le_of_ble_eq_true rfl) rfl ?_
        refine wa_goto C 20 dX5_partnerOf_104 rfl ?_
        exact ih l3 x7 z0 hf
      · replace hf := ite_f hf c6
        refine wa_aload_n C 1 39 dX5_partnerOf_38 rfl rfl ?_
        refine wa_iload C 4 41 dX5_partnerOf_39 rfl rfl ?_
        refine wa_aload_n C 1 42 dX5_partnerOf_41 rfl rfl ?_
        refine wa_aload_n C 1 43 dX5_partnerOf_42 rfl rfl ?_
        refine wa_get C 46 1 0 4 dX5_partnerOf_43 rfl iX10 q74 rfl (Nat.le_of_ble_eq_true rfl) rfl rfl rfl ?_
        refine wa_iload C 4 48 dX5_partnerOf_46 rfl rfl ?_
        obtain ⟨g8, hf⟩ := grd_ex hf
        refine wa_iald C 49 1 2 dX5_partnerOf_48 rfl rfl rfl (vi_in g8) ?_
        obtain ⟨q9, hq9, hf⟩ := bind_ex hf
        refine wa_callVi (b1 := 1) (q1 := 0) (ci := 10) (ws' := [wP dT a z0, wV dT a0 z1]) (As := [.int (z1.2 2 (l4).toNatClampNeg)]) C 52 dX5_partnerOf_49 rfl kv_X5_24 (c_X10_dwellers hq9) ⟨rfl, rfl⟩ ⟨Nat.le_of_ble_eq_true rfl, Nat.le_of_ble_eq_true rfl⟩ rfl rfl rfl [1] [0] [0, 1] rfl rfl rfl rfl (by decide) rfl rfl rfl rfl ⟨Nat.zero_le _, Nat.zero_le _⟩ (Nat.le_of_ble_eq_true rfl) ?_
        refine wa_iload_n C 3 53 dX5_partnerOf_52 rfl rfl ?_
        refine wa_iand C 54 dX5_partnerOf_53 rfl ?_
        obtain ⟨q10, hq10, hf⟩ := bind_ex hf
        refine wa_callSi (ws' := [wP dT a z0, wV dT a0 z1]) (As := [.ref (a0 0), .int l4, .int (q9 &&& l3)]) C 57 dX5_partnerOf_54 rfl ks_X5_44 (c_X5_firstPartner hq10) ⟨rfl, rfl⟩ ⟨Nat.le_of_ble_eq_true rfl, Nat.le_of_ble_eq_true rfl⟩ [1] [0] [0, 1] rfl rfl rfl rfl (by decide) rfl rfl rfl rfl ⟨Nat.zero_le _, Nat.zero_le _⟩ (Nat.le_of_ble_eq_true rfl) ?_
        refine wa_istore (lv' := [(0, .ref (a 0)), (1, .ref (a0 0)), (2, .int l2), (3, .int l3), (4, .int l4), (5, .int q10)]) C [1, 2, 3, 4, 5, 0] 59 dX5_partnerOf_57 rfl (Nat.le_of_ble_eq_true rfl) rfl ?_
        refine wa_iload_n C 3 60 dX5_partnerOf_59 rfl rfl ?_
        refine wa_iconst (v := 1) C 61 dX5_partnerOf_60 rfl rfl ?_
        refine wa_iload C 4 63 dX5_partnerOf_61 rfl rfl ?_
        refine wa_ishl C 64 dX5_partnerOf_63 rfl ?_
        refine wa_iconst (v := (-1)) C 65 dX5_partnerOf_64 rfl rfl ?_
        refine wa_ixor C 66 dX5_partnerOf_65 rfl ?_
        refine wa_iand C 67 dX5_partnerOf_66 rfl ?_
        obtain ⟨x11, ex11, hf⟩ := bnd_ex hf
        refine wa_topi ex11 ?_
        refine wa_istore_n (lv' := [(0, .ref (a 0)), (1, .ref (a0 0)), (2, .int l2), (3, .int x11), (4, .int l4), (5, .int q10)]) C [1, 2, 3, 0, 4, 5] 68 dX5_partnerOf_67 rfl (Nat.le_of_ble_eq_true rfl) rfl ?_
        refine wa_iload C 5 70 dX5_partnerOf_68 rfl rfl ?_
        refine wa_iconst (v := (-1)) C 71 dX5_partnerOf_70 rfl rfl ?_
        refine wa_icmp_eq C 101 74 dX5_partnerOf_71 rfl rfl (fun c12 => ?_) (fun c12 => ?_)
        · replace hf := ite_t hf c12
          obtain ⟨x13, ex13, hf⟩ := bnd_ex hf
          refine wa_iinc (v := x13) (lv' := [(0, .ref (a 0)), (1, .ref (a0 0)), (2, .int l2), (3, .int x11), (4, .int x13), (5, .int q10)]) C 4 [1, 2, 3, 4, 0, 5] 104 dX5_partnerOf_101 rfl rfl (by rw [ex13]; rfl) (Nat.le_of_ble_eq_true rfl) rfl ?_
          refine wa_goto C 20 dX5_partnerOf_104 rfl ?_
          refine wa_lv (lv' := [(0, .ref (a 0)), (1, .ref (a0 0)), (2, .int l2), (3, .int x11), (4, .int x13)]) [0, 1, 2, 3, 4] rfl ?_
          exact ih x11 x13 z0 hf
        · replace hf := ite_f hf c12
          refine wa_aload_n C 0 75 dX5_partnerOf_74 rfl rfl ?_
          refine wa_get C 78 0 0 0 dX5_partnerOf_75 rfl iX5 q313 rfl (Nat.le_of_ble_eq_true rfl) rfl rfl rfl ?_
          refine wa_iload C 4 80 dX5_partnerOf_78 rfl rfl ?_
          refine wa_iload C 5 82 dX5_partnerOf_80 rfl rfl ?_
          obtain ⟨g14, hf⟩ := grd_ex hf
          obtain ⟨y15, ey15, hf⟩ := bnd_ex hf
          refine wa_iast (ws' := [wP dT a y15, wV dT a0 z1]) C 83 0 1 dX5_partnerOf_82 rfl rfl rfl (vi_in g14) (by rw [ey15]; rfl) ?_
          refine wa_aload_n C 0 84 dX5_partnerOf_83 rfl rfl ?_
          refine wa_get C 87 0 0 0 dX5_partnerOf_84 rfl iX5 q313 rfl (Nat.le_of_ble_eq_true rfl) rfl rfl rfl ?_
          refine wa_iload C 5 89 dX5_partnerOf_87 rfl rfl ?_
          refine wa_iload C 4 91 dX5_partnerOf_89 rfl rfl ?_
          obtain ⟨g16, hf⟩ := grd_ex hf
          obtain ⟨y17, ey17, hf⟩ := bnd_ex hf
          refine wa_iast (ws' := [wP dT a y17, wV dT a0 z1]) C 92 0 1 dX5_partnerOf_91 rfl rfl rfl (vi_in g16) (by rw [ey17]; rfl) ?_
          refine wa_iload_n C 3 93 dX5_partnerOf_92 rfl rfl ?_
          refine wa_iconst (v := 1) C 94 dX5_partnerOf_93 rfl rfl ?_
          refine wa_iload C 5 96 dX5_partnerOf_94 rfl rfl ?_
          refine wa_ishl C 97 dX5_partnerOf_96 rfl ?_
          refine wa_iconst (v := (-1)) C 98 dX5_partnerOf_97 rfl rfl ?_
          refine wa_ixor C 99 dX5_partnerOf_98 rfl ?_
          refine wa_iand C 100 dX5_partnerOf_99 rfl ?_
          obtain ⟨x18, ex18, hf⟩ := bnd_ex hf
          refine wa_topi ex18 ?_
          refine wa_istore_n (lv' := [(0, .ref (a 0)), (1, .ref (a0 0)), (2, .int l2), (3, .int x18), (4, .int l4), (5, .int q10)]) C [1, 2, 3, 0, 4, 5] 101 dX5_partnerOf_100 rfl (Nat.le_of_ble_eq_true rfl) rfl ?_
          obtain ⟨x19, ex19, hf⟩ := bnd_ex hf
          refine wa_iinc (v := x19) (lv' := [(0, .ref (a 0)), (1, .ref (a0 0)), (2, .int l2), (3, .int x18), (4, .int x19), (5, .int q10)]) C 4 [1, 2, 3, 4, 0, 5] 104 dX5_partnerOf_101 rfl rfl (by rw [ex19]; rfl) (Nat.le_of_ble_eq_true rfl) rfl ?_
          refine wa_goto C 20 dX5_partnerOf_104 rfl ?_
          refine wa_lv (lv' := [(0, .ref (a 0)), (1, .ref (a0 0)), (2, .int l2), (3, .int x18), (4, .int x19)]) [0, 1, 2, 3, 4] rfl ?_
          exact ih x18 x19 y17 hf
set_option maxRecDepth 20000 in
theorem c_X5_partnerOf {l : Launch} {D : va_G} {dT : Nat → ClassId} {a : Nat → Nat} {a0 : Nat → Nat} {v : Ob} {v0 : Ob} {p1 : Int32} {res : Int32 × Ob} (hf : f_X5_partnerOf v v0 p1 = some res) : CTi l yX5_partnerOf cX5_partnerOf 6 (some .int) ({ frames := 5, cells := 0, slots := 0, locals := 108 } : Room) D dT [.ref (a 0), .ref (a0 0), .int p1] ([wP dT a v, wV dT a0 v0]) ([wP dT a res.2, wV dT a0 v0]) res.1 := by
  refine CTi.of (by decide) (Nat.le_of_ble_eq_true rfl) rfl ?_
  intro p e s m args below meth c A C
  unfold f_X5_partnerOf at hf
  refine wa_aload_n C 0 1 dX5_partnerOf_0 rfl rfl ?_
  refine wa_get C 4 0 0 0 dX5_partnerOf_1 rfl iX5 q313 rfl (Nat.le_of_ble_eq_true rfl) rfl rfl rfl ?_
  refine wa_iconst (v := (-1)) C 5 dX5_partnerOf_4 rfl rfl ?_
  refine wa_open 0 1 rfl rfl ?_
  obtain ⟨q1, hq1, hf⟩ := bind_ex hf
  obtain ⟨y2, ey2, hf⟩ := bnd_ex hf
  refine wa_callSv (ws' := [(wP dT a v).eraseIdx 1, wV dT a0 v0, [(a 1, .inl (dT 0, 12, .inl q1))]]) (As := [.ref (a 1), .int (-1 : Int32)]) C 8 dX5_partnerOf_5 rfl ks_X5_32 (c_J7_fill_53178 hq1) ⟨rfl, rfl⟩ ⟨Nat.le_of_ble_eq_true rfl, Nat.le_of_ble_eq_true rfl⟩ [2] [0, 1] [0, 1, 2] rfl rfl rfl rfl (by decide) rfl rfl rfl rfl ⟨Nat.zero_le _, Nat.zero_le _⟩ (Nat.le_of_ble_eq_true rfl) ?_
  refine wa_close (ws := [(wP dT a v).eraseIdx 1, wV dT a0 v0]) (ws' := [wP dT a y2, wV dT a0 v0]) 0 1 (wP dT a y2) (by rw [ey2]; rfl) (by rw [ey2]; rfl) rfl ?_
  refine wa_iconst (v := 1) C 9 dX5_partnerOf_8 rfl rfl ?_
  refine wa_aload_n C 1 10 dX5_partnerOf_9 rfl rfl ?_
  refine wa_get C 13 1 0 0 dX5_partnerOf_10 rfl iX10 q51 rfl (Nat.le_of_ble_eq_true rfl) rfl rfl rfl ?_
  refine wa_ishl C 14 dX5_partnerOf_13 rfl ?_
  refine wa_iconst (v := 1) C 15 dX5_partnerOf_14 rfl rfl ?_
  refine wa_isub C 16 dX5_partnerOf_15 rfl ?_
  obtain ⟨x3, ex3, hf⟩ := bnd_ex hf
  refine wa_topi ex3 ?_
  refine wa_istore_n (lv' := [(0, .ref (a 0)), (1, .ref (a0 0)), (2, .int p1), (3, .int x3)]) C [1, 2, 3, 0] 17 dX5_partnerOf_16 rfl (Nat.le_of_ble_eq_true rfl) rfl ?_
  refine wa_iconst (v := 0) C 18 dX5_partnerOf_17 rfl rfl ?_
  refine wa_istore (lv' := [(0, .ref (a 0)), (1, .ref (a0 0)), (2, .int p1), (3, .int x3), (4, .int (0 : Int32))]) C [1, 2, 3, 4, 0] 20 dX5_partnerOf_18 rfl (Nat.le_of_ble_eq_true rfl) rfl ?_
  exact w_X5_partnerOf_L20 C FUEL x3 (0 : Int32) y2 hf
def f_X5_differenceBy_L5 (l2 : Int32) (z0 : Ob) (z1 : Ob) : Nat → Int32 → Int32 → Option (Int32)
  | 0, _, _ => none
  | n + 1, l3, l4 => (if (z1.1 0) ≤ l4 then some ((if 0 ≤ l3 then l3 else 0 - l3)) else (if ((l2 >>> (l4 &&& 31)) &&& (1 : Int32)) = 0 then grd (vi l4 12) (bnd (l3 + (-(z1.2 1 (l4).toNatClampNeg))) (fun x4 => bnd (l4 + 1) (fun x5 => f_X5_differenceBy_L5 l2 z0 z1 n x4 x5))) else grd (vi l4 12) (bnd (l3 + (z1.2 1 (l4).toNatClampNeg)) (fun x7 => bnd (l4 + 1) (fun x8 => f_X5_differenceBy_L5 l2 z0 z1 n x7 x8)))))
def f_X5_differenceBy (v : Ob) (v0 : Ob) (p1 : Int32) : Option (Int32) := f_X5_differenceBy_L5 p1 v v0 FUEL (0 : Int32) (0 : Int32)
set_option maxRecDepth 20000 in
theorem w_X5_differenceBy_L5 {p : Program} {l : Launch} {e : Env} {s : State} {m : MethodId} {args : Array Value} {below : List Frame} {meth : Method} {c : Code} {D : va_G} {A : Nat → Prop} {dT : Nat → ClassId} {a : Nat → Nat} {a0 : Nat → Nat} {res : Int32} {l2 : Int32} {z0 : Ob} {z1 : Ob} (C : Cx p s m args meth c cX5_differenceBy 5 RX5 (some .int) D A dT) : ∀ (n : Nat) (l3 : Int32) (l4 : Int32), f_X5_differenceBy_L5 l2 z0 z1 n l3 l4 = some res → WA p l e ({ frames := 3, cells := 0, slots := 0, locals := 60 } : Room) s m args below meth c (MQ below (QI D dT A ([wP dT a z0, wV dT a0 z1]) res) args s 0 0 A) D A 0 0 5 5 ([wP dT a z0, wV dT a0 z1]) [(1, .ref (a0 0)), (2, .int l2), (3, .int l3), (4, .int l4)] [] := by
  intro n
  induction n with
  | zero => intro l3 l4 hf; cases hf
  | succ n ih =>
    intro l3 l4 hf
    unfold f_X5_differenceBy_L5 at hf
    refine wa_iload C 3 7 dX5_differenceBy_5 rfl rfl ?_
    refine wa_aload_n C 0 8 dX5_differenceBy_7 rfl rfl ?_
    refine wa_get C 11 1 0 0 dX5_differenceBy_8 rfl iX10 q51 rfl (Nat.le_of_ble_eq_true rfl) rfl rfl rfl ?_
    refine wa_icmp_ge C 50 14 dX5_differenceBy_11 rfl rfl (fun c1 => ?_) (fun c1 => ?_)
    · replace hf := ite_t hf c1
      refine wa_iload_n C 2 51 dX5_differenceBy_50 rfl rfl ?_
      refine wa_mabs C 54 dX5_differenceBy_51 rfl q1036 q1037 q18 q1038 (Nat.le_of_ble_eq_true rfl) (Nat.le_of_ble_eq_true rfl) ⟨Nat.zero_le _, Nat.zero_le _⟩ ?_
      cases hf
      exact wa_iret C dX5_differenceBy_54 rfl rfl
    · replace hf := ite_f hf c1
      refine wa_iload_n C 2 15 dX5_differenceBy_14 rfl rfl ?_
      refine wa_iload_n C 1 16 dX5_differenceBy_15 rfl rfl ?_
      refine wa_iload C 3 18 dX5_differenceBy_16 rfl rfl ?_
      refine wa_ishr C 19 dX5_differenceBy_18 rfl ?_
      refine wa_iconst (v := 1) C 20 dX5_differenceBy_19 rfl rfl ?_
      refine wa_iand C 21 dX5_differenceBy_20 rfl ?_
      refine wa_if_eq C 34 24 dX5_differenceBy_21 rfl rfl (fun c2 => ?_) (fun c2 => ?_)
      · replace hf := ite_t hf c2
        refine wa_aload_n C 0 35 dX5_differenceBy_34 rfl rfl ?_
        refine wa_get C 38 1 0 3 dX5_differenceBy_35 rfl iX10 q67 rfl (Nat.le_of_ble_eq_true rfl) rfl rfl rfl ?_
        refine wa_iload C 3 40 dX5_differenceBy_38 rfl rfl ?_
        obtain ⟨g3, hf⟩ := grd_ex hf
        refine wa_iald C 41 1 1 dX5_differenceBy_40 rfl rfl rfl (vi_in g3) ?_
        refine wa_ineg C 42 dX5_differenceBy_41 rfl ?_
        refine wa_iadd C 43 dX5_differenceBy_42 rfl ?_
        obtain ⟨x4, ex4, hf⟩ := bnd_ex hf
        refine wa_topi ex4 ?_
        refine wa_istore_n (lv' := [(1, .ref (a0 0)), (2, .int l2), (3, .int x4), (4, .int l4)]) C [1, 2, 0, 3] 44 dX5_differenceBy_43 rfl (Nat.le_of_ble_eq_true rfl) rfl ?_
        obtain ⟨x5, ex5, hf⟩ := bnd_ex hf
        refine wa_iinc (v := x5) (lv' := [(1, .ref (a0 0)), (2, .int l2), (3, .int x4), (4, .int x5)]) C 3 [1, 2, 3, 0] 47 dX5_differenceBy_44 rfl rfl (by rw [ex5]; rfl) (Nat.le_of_ble_eq_true rfl) rfl ?_
        refine wa_goto C 5 dX5_differenceBy_47 rfl ?_
        exact ih x4 x5 hf
      · replace hf := ite_f hf c2
        refine wa_aload_n C 0 25 dX5_differenceBy_24 rfl rfl ?_
        refine wa_get C 28 1 0 3 dX5_differenceBy_25 rfl iX10 q67 rfl (Nat.le_of_ble_eq_true rfl) rfl rfl rfl ?_
        refine wa_iload C 3 30 dX5_differenceBy_28 rfl rfl ?_
        obtain ⟨g6, hf⟩ := grd_ex hf
        refine wa_iald C 31 1 1 dX5_differenceBy_30 rfl rfl rfl (vi_in g6) ?_
        refine wa_goto C 42 dX5_differenceBy_31 rfl ?_
        refine wa_iadd C 43 dX5_differenceBy_42 rfl ?_
        obtain ⟨x7, ex7, hf⟩ := bnd_ex hf
        refine wa_topi ex7 ?_
        refine wa_istore_n (lv' := [(1, .ref (a0 0)), (2, .int l2), (3, .int x7), (4, .int l4)]) C [1, 2, 0, 3] 44 dX5_differenceBy_43 rfl (Nat.le_of_ble_eq_true rfl) rfl ?_
        obtain ⟨x8, ex8, hf⟩ := bnd_ex hf
        refine wa_iinc (v := x8) (lv' := [(1, .ref (a0 0)), (2, .int l2), (3, .int x7), (4, .int x8)]) C 3 [1, 2, 3, 0] 47 dX5_differenceBy_44 rfl rfl (by rw [ex8]; rfl) (Nat.le_of_ble_eq_true rfl) rfl ?_
        refine wa_goto C 5 dX5_differenceBy_47 rfl ?_
        exact ih x7 x8 hf
set_option maxRecDepth 20000 in
theorem c_X5_differenceBy {l : Launch} {D : va_G} {dT : Nat → ClassId} {a : Nat → Nat} {a0 : Nat → Nat} {v : Ob} {v0 : Ob} {p1 : Int32} {res : Int32} (hf : f_X5_differenceBy v v0 p1 = some res) : CTi l yX5_differenceBy cX5_differenceBy 5 (some .int) ({ frames := 3, cells := 0, slots := 0, locals := 60 } : Room) D dT [.ref (a 0), .ref (a0 0), .int p1] ([wP dT a v, wV dT a0 v0]) ([wP dT a v, wV dT a0 v0]) res := by
  refine CTi.of (by decide) (Nat.le_of_ble_eq_true rfl) rfl ?_
  intro p e s m args below meth c A C
  unfold f_X5_differenceBy at hf
  refine wa_iconst (v := 0) C 1 dX5_differenceBy_0 rfl rfl ?_
  refine wa_istore_n (lv' := [(0, .ref (a 0)), (1, .ref (a0 0)), (2, .int p1), (3, .int (0 : Int32))]) C [1, 2, 3, 0] 2 dX5_differenceBy_1 rfl (Nat.le_of_ble_eq_true rfl) rfl ?_
  refine wa_iconst (v := 0) C 3 dX5_differenceBy_2 rfl rfl ?_
  refine wa_istore (lv' := [(0, .ref (a 0)), (1, .ref (a0 0)), (2, .int p1), (3, .int (0 : Int32)), (4, .int (0 : Int32))]) C [1, 2, 3, 4, 0] 5 dX5_differenceBy_3 rfl (Nat.le_of_ble_eq_true rfl) rfl ?_
  refine wa_lv (lv' := [(1, .ref (a0 0)), (2, .int p1), (3, .int (0 : Int32)), (4, .int (0 : Int32))]) [1, 2, 3, 4] rfl ?_
  exact w_X5_differenceBy_L5 C FUEL (0 : Int32) (0 : Int32) hf
theorem kv_X5_68 : KV RX5 68 yX5_differenceBy cX5_differenceBy 5 (some .int) 2 := KV.mk q1269 q1270 q1271 q11 q1272 ⟨by decide, by decide, by decide +kernel⟩
def f_X5_firstHalf_L9 (z0 : Ob) (z1 : Ob) : Nat → Int32 → Int32 → Int32 → Option (Int32)
  | 0, _, _, _ => none
  | n + 1, l2, l3, l4 => (if ((1 : Int32) <<< ((z1.1 0) &&& 31)) ≤ l4 then some (l2) else (f_X5_differenceBy z0 z1 l4).bind (fun q2 => (if l3 ≤ q2 then bnd (l4 + 2) (fun x4 => f_X5_firstHalf_L9 z0 z1 n l2 l3 x4) else bnd (l4 + 2) (fun x5 => f_X5_firstHalf_L9 z0 z1 n l4 q2 x5))))
def f_X5_firstHalf (v : Ob) (v0 : Ob) : Option (Int32) := f_X5_firstHalf_L9 v v0 FUEL (0 : Int32) (1000 : Int32) (1 : Int32)
set_option maxRecDepth 20000 in
theorem w_X5_firstHalf_L9 {p : Program} {l : Launch} {e : Env} {s : State} {m : MethodId} {args : Array Value} {below : List Frame} {meth : Method} {c : Code} {D : va_G} {A : Nat → Prop} {dT : Nat → ClassId} {a : Nat → Nat} {a0 : Nat → Nat} {res : Int32} {z0 : Ob} {z1 : Ob} (C : Cx p s m args meth c cX5_firstHalf 6 RX5 (some .int) D A dT) : ∀ (n : Nat) (l2 : Int32) (l3 : Int32) (l4 : Int32), f_X5_firstHalf_L9 z0 z1 n l2 l3 l4 = some res → WA p l e ({ frames := 4, cells := 0, slots := 0, locals := 84 } : Room) s m args below meth c (MQ below (QI D dT A ([wP dT a z0, wV dT a0 z1]) res) args s 0 0 A) D A 0 0 6 9 ([wP dT a z0, wV dT a0 z1]) [(0, .ref (a 0)), (1, .ref (a0 0)), (2, .int l2), (3, .int l3), (4, .int l4)] [] := by
  intro n
  induction n with
  | zero => intro l2 l3 l4 hf; cases hf
  | succ n ih =>
    intro l2 l3 l4 hf
    unfold f_X5_firstHalf_L9 at hf
    refine wa_iload C 4 11 dX5_firstHalf_9 rfl rfl ?_
    refine wa_iconst (v := 1) C 12 dX5_firstHalf_11 rfl rfl ?_
    refine wa_aload_n C 1 13 dX5_firstHalf_12 rfl rfl ?_
    refine wa_get C 16 1 0 0 dX5_firstHalf_13 rfl iX10 q51 rfl (Nat.le_of_ble_eq_true rfl) rfl rfl rfl ?_
    refine wa_ishl C 17 dX5_firstHalf_16 rfl ?_
    refine wa_icmp_ge C 47 20 dX5_firstHalf_17 rfl rfl (fun c1 => ?_) (fun c1 => ?_)
    · replace hf := ite_t hf c1
      refine wa_iload_n C 2 48 dX5_firstHalf_47 rfl rfl ?_
      cases hf
      exact wa_iret C dX5_firstHalf_48 rfl rfl
    · replace hf := ite_f hf c1
      refine wa_aload_n C 0 21 dX5_firstHalf_20 rfl rfl ?_
      refine wa_aload_n C 1 22 dX5_firstHalf_21 rfl rfl ?_
      refine wa_iload C 4 24 dX5_firstHalf_22 rfl rfl ?_
      obtain ⟨q2, hq2, hf⟩ := bind_ex hf
      refine wa_callVAi (b1 := 0) (q1 := 0) (ci := 5) (As := [.ref (a0 0), .int l4]) C 27 dX5_firstHalf_24 rfl kv_X5_68 (c_X5_differenceBy hq2) ⟨rfl, rfl⟩ ⟨Nat.le_of_ble_eq_true rfl, Nat.le_of_ble_eq_true rfl⟩ rfl rfl rfl rfl rfl ⟨Nat.zero_le _, Nat.zero_le _⟩ (Nat.le_of_ble_eq_true rfl) ?_
      refine wa_istore (lv' := [(0, .ref (a 0)), (1, .ref (a0 0)), (2, .int l2), (3, .int l3), (4, .int l4), (5, .int q2)]) C [1, 2, 3, 4, 5, 0] 29 dX5_firstHalf_27 rfl (Nat.le_of_ble_eq_true rfl) rfl ?_
      refine wa_iload C 5 31 dX5_firstHalf_29 rfl rfl ?_
      refine wa_iload_n C 3 32 dX5_firstHalf_31 rfl rfl ?_
      refine wa_icmp_ge C 41 35 dX5_firstHalf_32 rfl rfl (fun c3 => ?_) (fun c3 => ?_)
      · replace hf := ite_t hf c3
        obtain ⟨x4, ex4, hf⟩ := bnd_ex hf
        refine wa_iinc (v := x4) (lv' := [(0, .ref (a 0)), (1, .ref (a0 0)), (2, .int l2), (3, .int l3), (4, .int x4), (5, .int q2)]) C 4 [1, 2, 3, 4, 0, 5] 44 dX5_firstHalf_41 rfl rfl (by rw [ex4]; rfl) (Nat.le_of_ble_eq_true rfl) rfl ?_
        refine wa_goto C 9 dX5_firstHalf_44 rfl ?_
        refine wa_lv (lv' := [(0, .ref (a 0)), (1, .ref (a0 0)), (2, .int l2), (3, .int l3), (4, .int x4)]) [0, 1, 2, 3, 4] rfl ?_
        exact ih l2 l3 x4 hf
      · replace hf := ite_f hf c3
        refine wa_iload C 4 37 dX5_firstHalf_35 rfl rfl ?_
        refine wa_istore_n (lv' := [(0, .ref (a 0)), (1, .ref (a0 0)), (2, .int l4), (3, .int l3), (4, .int l4), (5, .int q2)]) C [1, 2, 0, 3, 4, 5] 38 dX5_firstHalf_37 rfl (Nat.le_of_ble_eq_true rfl) rfl ?_
        refine wa_iload C 5 40 dX5_firstHalf_38 rfl rfl ?_
        refine wa_istore_n (lv' := [(0, .ref (a 0)), (1, .ref (a0 0)), (2, .int l4), (3, .int q2), (4, .int l4), (5, .int q2)]) C [1, 2, 3, 0, 4, 5] 41 dX5_firstHalf_40 rfl (Nat.le_of_ble_eq_true rfl) rfl ?_
        obtain ⟨x5, ex5, hf⟩ := bnd_ex hf
        refine wa_iinc (v := x5) (lv' := [(0, .ref (a 0)), (1, .ref (a0 0)), (2, .int l4), (3, .int q2), (4, .int x5), (5, .int q2)]) C 4 [1, 2, 3, 4, 0, 5] 44 dX5_firstHalf_41 rfl rfl (by rw [ex5]; rfl) (Nat.le_of_ble_eq_true rfl) rfl ?_
        refine wa_goto C 9 dX5_firstHalf_44 rfl ?_
        refine wa_lv (lv' := [(0, .ref (a 0)), (1, .ref (a0 0)), (2, .int l4), (3, .int q2), (4, .int x5)]) [0, 1, 2, 3, 4] rfl ?_
        exact ih l4 q2 x5 hf
set_option maxRecDepth 20000 in
theorem c_X5_firstHalf {l : Launch} {D : va_G} {dT : Nat → ClassId} {a : Nat → Nat} {a0 : Nat → Nat} {v : Ob} {v0 : Ob} {res : Int32} (hf : f_X5_firstHalf v v0 = some res) : CTi l yX5_firstHalf cX5_firstHalf 6 (some .int) ({ frames := 4, cells := 0, slots := 0, locals := 84 } : Room) D dT [.ref (a 0), .ref (a0 0)] ([wP dT a v, wV dT a0 v0]) ([wP dT a v, wV dT a0 v0]) res := by
  refine CTi.of (by decide) (Nat.le_of_ble_eq_true rfl) rfl ?_
  intro p e s m args below meth c A C
  unfold f_X5_firstHalf at hf
  refine wa_iconst (v := 0) C 1 dX5_firstHalf_0 rfl rfl ?_
  refine wa_istore_n (lv' := [(0, .ref (a 0)), (1, .ref (a0 0)), (2, .int (0 : Int32))]) C [1, 2, 0] 2 dX5_firstHalf_1 rfl (Nat.le_of_ble_eq_true rfl) rfl ?_
  refine wa_sipush (v := 1000) C 5 dX5_firstHalf_2 rfl rfl ?_
  refine wa_istore_n (lv' := [(0, .ref (a 0)), (1, .ref (a0 0)), (2, .int (0 : Int32)), (3, .int (1000 : Int32))]) C [1, 2, 3, 0] 6 dX5_firstHalf_5 rfl (Nat.le_of_ble_eq_true rfl) rfl ?_
  refine wa_iconst (v := 1) C 7 dX5_firstHalf_6 rfl rfl ?_
  refine wa_istore (lv' := [(0, .ref (a 0)), (1, .ref (a0 0)), (2, .int (0 : Int32)), (3, .int (1000 : Int32)), (4, .int (1 : Int32))]) C [1, 2, 3, 4, 0] 9 dX5_firstHalf_7 rfl (Nat.le_of_ble_eq_true rfl) rfl ?_
  exact w_X5_firstHalf_L9 C FUEL (0 : Int32) (1000 : Int32) (1 : Int32) hf
theorem ks_X2_62 : KS RX2 62 yJ7_fill_53178 cJ7_fill_53178 4 none 2 := KS.mk q471 q472 q27 q473 ⟨by decide, by decide, by decide +kernel⟩
theorem kv_X2_101 : KV RX2 101 yX10_old cX10_old 2 (some .int) 1 := KV.mk q474 q475 q476 q3 q477 ⟨by decide, by decide, by decide +kernel⟩
theorem kv_X2_94 : KV RX2 94 yX7_of cX7_of 8 (some .int) 1 := KV.mk q478 q479 q480 q5 q481 ⟨by decide, by decide, by decide +kernel⟩
def f_X2_keptIn_L48 (z1 : Ob) (z3 : Ob) : Nat → Int32 → Int32 → Ob → Ob → Option (Int32 × Ob × Ob)
  | 0, _, _, _, _ => none
  | n + 1, l2, l3, z0, z2 => (if (z3.1 1) ≤ l3 then some (l2, z0, z2) else grd (vi l3 13) (grd (vi (4 : Int32) 9) (bnd (z0.1, uA z0.2 4 ((4 : Int32)).toNatClampNeg (z3.2 6 (l3).toNatClampNeg)) (fun y7 => grd (vi (5 : Int32) 9) (bnd (y7.1, uA y7.2 4 ((5 : Int32)).toNatClampNeg (z3.1 2)) (fun y9 => grd (vi (6 : Int32) 9) (bnd (y9.1, uA y9.2 4 ((6 : Int32)).toNatClampNeg l3) (fun y11 => grd (vi l3 13) (grd (vi (7 : Int32) 9) (bnd (y11.1, uA y11.2 4 ((7 : Int32)).toNatClampNeg (y11.2 3 (l3).toNatClampNeg)) (fun y14 => (f_X10_old z3 l3).bind (fun q15 => grd (vi (8 : Int32) 9) (bnd (y14.1, uA y14.2 4 ((8 : Int32)).toNatClampNeg q15) (fun y17 => (f_X7_of z2 (y17.2 4) 9).bind (fun q18 => (if q18.1 ≤ 0 then bnd (l3 + 1) (fun x20 => f_X2_keptIn_L48 z1 z3 n l2 x20 y17 q18.2) else bnd (l2 ||| ((1 : Int32) <<< (l3 &&& 31))) (fun x21 => bnd (l3 + 1) (fun x22 => f_X2_keptIn_L48 z1 z3 n x21 x22 y17 q18.2))))))))))))))))))
def f_X2_keptIn_L10 (z1 : Ob) (z3 : Ob) : Nat → Int32 → Ob → Ob → Option (Int32 × Ob × Ob)
  | 0, _, _, _ => none
  | n + 1, l2, z0, z2 => (if (z3.1 0) ≤ l2 then f_X2_keptIn_L48 z1 z3 FUEL (0 : Int32) (0 : Int32) z0 z2 else grd (vi l2 12) (grd (vi (z3.2 2 (l2).toNatClampNeg) 13) (grd (vi l2 12) (grd (vi (z3.2 2 (l2).toNatClampNeg) 13) (bnd (z0.1, uA z0.2 3 ((z3.2 2 (l2).toNatClampNeg)).toNatClampNeg ((z0.2 3 ((z3.2 2 (l2).toNatClampNeg)).toNatClampNeg) + (z3.2 1 (l2).toNatClampNeg))) (fun y27 => bnd (l2 + 1) (fun x28 => f_X2_keptIn_L10 z1 z3 n x28 y27 z2)))))))
def f_X2_keptIn (v : Ob) (v_p : Ob) (v_k : Ob) (v0 : Ob) : Option (Int32 × Ob × Ob) := (f_J7_fill_53178 (v.2 3) 13 (0 : Int32)).bind (fun q1 => bnd (v.1, sA v.2 3 q1) (fun y2 => f_X2_keptIn_L10 v_p v0 FUEL (0 : Int32) y2 v_k))
set_option maxRecDepth 20000 in
theorem w_X2_keptIn_L48 {p : Program} {l : Launch} {e : Env} {s : State} {m : MethodId} {args : Array Value} {below : List Frame} {meth : Method} {c : Code} {D : va_G} {A : Nat → Prop} {dT : Nat → ClassId} {a : Nat → Nat} {a_p : Nat → Nat} {a_k : Nat → Nat} {a0 : Nat → Nat} {res : Int32 × Ob × Ob} {z1 : Ob} {z3 : Ob} (C : Cx p s m args meth c cX2_keptIn 4 RX2 (some .int) D A dT) : ∀ (n : Nat) (l2 : Int32) (l3 : Int32) (z0 : Ob) (z2 : Ob), f_X2_keptIn_L48 z1 z3 n l2 l3 z0 z2 = some res → WA p l e ({ frames := 1, cells := 0, slots := 0, locals := 27 } : Room) s m args below meth c (MQ below (QI D dT A ([wD dT a (a_p 0) (a_k 0) res.2.1, wR dT a_p z1, wR dT a_k res.2.2, wV dT a0 z3]) res.1) args s 0 0 A) D A 0 0 4 48 ([wD dT a (a_p 0) (a_k 0) z0, wR dT a_p z1, wR dT a_k z2, wV dT a0 z3]) [(0, .ref (a 0)), (1, .ref (a0 0)), (2, .int l2), (3, .int l3)] [] := by
  intro n
  induction n with
  | zero => intro l2 l3 z0 z2 hf; cases hf
  | succ n ih =>
    intro l2 l3 z0 z2 hf
    unfold f_X2_keptIn_L48 at hf
    refine wa_iload_n C 3 49 dX2_keptIn_48 rfl rfl ?_
    refine wa_aload_n C 1 50 dX2_keptIn_49 rfl rfl ?_
    refine wa_get C 53 3 0 1 dX2_keptIn_50 rfl iX10 q59 rfl (Nat.le_of_ble_eq_true rfl) rfl rfl rfl ?_
    refine wa_icmp_ge C 137 56 dX2_keptIn_53 rfl rfl (fun c4 => ?_) (fun c4 => ?_)
    · replace hf := ite_t hf c4
      refine wa_iload_n C 2 138 dX2_keptIn_137 rfl rfl ?_
      cases hf
      exact wa_iret C dX2_keptIn_138 rfl rfl
    · replace hf := ite_f hf c4
      refine wa_aload_n C 0 57 dX2_keptIn_56 rfl rfl ?_
      refine wa_get C 60 0 0 5 dX2_keptIn_57 rfl iX2 q212 rfl (Nat.le_of_ble_eq_true rfl) rfl rfl rfl ?_
      refine wa_iconst (v := 4) C 61 dX2_keptIn_60 rfl rfl ?_
      refine wa_aload_n C 1 62 dX2_keptIn_61 rfl rfl ?_
      refine wa_get C 65 3 0 8 dX2_keptIn_62 rfl iX10 q89 rfl (Nat.le_of_ble_eq_true rfl) rfl rfl rfl ?_
      refine wa_iload_n C 3 66 dX2_keptIn_65 rfl rfl ?_
      obtain ⟨g5, hf⟩ := grd_ex hf
      refine wa_iald C 67 3 6 dX2_keptIn_66 rfl rfl rfl (vi_in g5) ?_
      obtain ⟨g6, hf⟩ := grd_ex hf
      obtain ⟨y7, ey7, hf⟩ := bnd_ex hf
      refine wa_iast (ws' := [wD dT a (a_p 0) (a_k 0) y7, wR dT a_p z1, wR dT a_k z2, wV dT a0 z3]) C 68 0 4 dX2_keptIn_67 rfl rfl rfl (vi_in g6) (by rw [ey7]; rfl) ?_
      refine wa_aload_n C 0 69 dX2_keptIn_68 rfl rfl ?_
      refine wa_get C 72 0 0 5 dX2_keptIn_69 rfl iX2 q212 rfl (Nat.le_of_ble_eq_true rfl) rfl rfl rfl ?_
      refine wa_iconst (v := 5) C 73 dX2_keptIn_72 rfl rfl ?_
      refine wa_aload_n C 1 74 dX2_keptIn_73 rfl rfl ?_
      refine wa_get C 77 3 0 2 dX2_keptIn_74 rfl iX10 q62 rfl (Nat.le_of_ble_eq_true rfl) rfl rfl rfl ?_
      obtain ⟨g8, hf⟩ := grd_ex hf
      obtain ⟨y9, ey9, hf⟩ := bnd_ex hf
      refine wa_iast (ws' := [wD dT a (a_p 0) (a_k 0) y9, wR dT a_p z1, wR dT a_k z2, wV dT a0 z3]) C 78 0 4 dX2_keptIn_77 rfl rfl rfl (vi_in g8) (by rw [ey9]; rfl) ?_
      refine wa_aload_n C 0 79 dX2_keptIn_78 rfl rfl ?_
      refine wa_get C 82 0 0 5 dX2_keptIn_79 rfl iX2 q212 rfl (Nat.le_of_ble_eq_true rfl) rfl rfl rfl ?_
      refine wa_bipush (v := 6) C 84 dX2_keptIn_82 rfl rfl ?_
      refine wa_iload_n C 3 85 dX2_keptIn_84 rfl rfl ?_
      obtain ⟨g10, hf⟩ := grd_ex hf
      obtain ⟨y11, ey11, hf⟩ := bnd_ex hf
      refine wa_iast (ws' := [wD dT a (a_p 0) (a_k 0) y11, wR dT a_p z1, wR dT a_k z2, wV dT a0 z3]) C 86 0 4 dX2_keptIn_85 rfl rfl rfl (vi_in g10) (by rw [ey11]; rfl) ?_
      refine wa_aload_n C 0 87 dX2_keptIn_86 rfl rfl ?_
      refine wa_get C 90 0 0 5 dX2_keptIn_87 rfl iX2 q212 rfl (Nat.le_of_ble_eq_true rfl) rfl rfl rfl ?_
      refine wa_bipush (v := 7) C 92 dX2_keptIn_90 rfl rfl ?_
      refine wa_aload_n C 0 93 dX2_keptIn_92 rfl rfl ?_
      refine wa_get C 96 0 0 4 dX2_keptIn_93 rfl iX2 q211 rfl (Nat.le_of_ble_eq_true rfl) rfl rfl rfl ?_
      refine wa_iload_n C 3 97 dX2_keptIn_96 rfl rfl ?_
      obtain ⟨g12, hf⟩ := grd_ex hf
      refine wa_iald C 98 0 3 dX2_keptIn_97 rfl rfl rfl (vi_in g12) ?_
      obtain ⟨g13, hf⟩ := grd_ex hf
      obtain ⟨y14, ey14, hf⟩ := bnd_ex hf
      refine wa_iast (ws' := [wD dT a (a_p 0) (a_k 0) y14, wR dT a_p z1, wR dT a_k z2, wV dT a0 z3]) C 99 0 4 dX2_keptIn_98 rfl rfl rfl (vi_in g13) (by rw [ey14]; rfl) ?_
      refine wa_aload_n C 0 100 dX2_keptIn_99 rfl rfl ?_
      refine wa_get C 103 0 0 5 dX2_keptIn_100 rfl iX2 q212 rfl (Nat.le_of_ble_eq_true rfl) rfl rfl rfl ?_
      refine wa_bipush (v := 8) C 105 dX2_keptIn_103 rfl rfl ?_
      refine wa_aload_n C 1 106 dX2_keptIn_105 rfl rfl ?_
      refine wa_iload_n C 3 107 dX2_keptIn_106 rfl rfl ?_
      obtain ⟨q15, hq15, hf⟩ := bind_ex hf
      refine wa_callVi (b1 := 3) (q1 := 0) (ci := 10) (ws' := [wD dT a (a_p 0) (a_k 0) y14, wR dT a_p z1, wR dT a_k z2, wV dT a0 z3]) (As := [.int l3]) C 110 dX2_keptIn_107 rfl kv_X2_101 (c_X10_old hq15) ⟨rfl, rfl⟩ ⟨Nat.le_of_ble_eq_true rfl, Nat.le_of_ble_eq_true rfl⟩ rfl rfl rfl [3] [0, 1, 2] [0, 1, 2, 3] rfl rfl rfl rfl (by decide) rfl rfl rfl rfl ⟨Nat.zero_le _, Nat.zero_le _⟩ (Nat.le_of_ble_eq_true rfl) ?_
      obtain ⟨g16, hf⟩ := grd_ex hf
      obtain ⟨y17, ey17, hf⟩ := bnd_ex hf
      refine wa_iast (ws' := [wD dT a (a_p 0) (a_k 0) y17, wR dT a_p z1, wR dT a_k z2, wV dT a0 z3]) C 111 0 4 dX2_keptIn_110 rfl rfl rfl (vi_in g16) (by rw [ey17]; rfl) ?_
      refine wa_aload_n C 0 112 dX2_keptIn_111 rfl rfl ?_
      refine wa_get C 115 0 0 1 dX2_keptIn_112 rfl iX2 q207 rfl (Nat.le_of_ble_eq_true rfl) rfl rfl rfl ?_
      refine wa_aload_n C 0 116 dX2_keptIn_115 rfl rfl ?_
      refine wa_get C 119 0 0 5 dX2_keptIn_116 rfl iX2 q212 rfl (Nat.le_of_ble_eq_true rfl) rfl rfl rfl ?_
      refine wa_open 0 4 rfl rfl ?_
      obtain ⟨q18, hq18, hf⟩ := bind_ex hf
      refine wa_callVi (b1 := 2) (q1 := 0) (ci := 7) (ws' := [(wD dT a (a_p 0) (a_k 0) y17).eraseIdx 4, wR dT a_p z1, wR dT a_k q18.2, wV dT a0 z3, [(a 4, .inl (dT 0, 9, .inl (y17.2 4)))]]) (As := [.ref (a 4)]) C 122 dX2_keptIn_119 rfl kv_X2_94 (c_X7_of hq18) ⟨rfl, rfl⟩ ⟨Nat.le_of_ble_eq_true rfl, Nat.le_of_ble_eq_true rfl⟩ rfl rfl rfl [2, 4] [0, 1, 3] [0, 1, 3, 2, 4] rfl rfl rfl rfl (by decide) rfl rfl rfl rfl ⟨Nat.zero_le _, Nat.zero_le _⟩ (Nat.le_of_ble_eq_true rfl) ?_
      refine wa_close (ws := [(wD dT a (a_p 0) (a_k 0) y17).eraseIdx 4, wR dT a_p z1, wR dT a_k q18.2, wV dT a0 z3]) (ws' := [wD dT a (a_p 0) (a_k 0) y17, wR dT a_p z1, wR dT a_k q18.2, wV dT a0 z3]) 0 4 (wD dT a (a_p 0) (a_k 0) y17) rfl rfl rfl ?_
      refine wa_if_le C 131 125 dX2_keptIn_122 rfl rfl (fun c19 => ?_) (fun c19 => ?_)
      · replace hf := ite_t hf c19
        obtain ⟨x20, ex20, hf⟩ := bnd_ex hf
        refine wa_iinc (v := x20) (lv' := [(0, .ref (a 0)), (1, .ref (a0 0)), (2, .int l2), (3, .int x20)]) C 3 [1, 2, 3, 0] 134 dX2_keptIn_131 rfl rfl (by rw [ex20]; rfl) (Nat.le_of_ble_eq_true rfl) rfl ?_
        refine wa_goto C 48 dX2_keptIn_134 rfl ?_
        exact ih l2 x20 y17 q18.2 hf
      · replace hf := ite_f hf c19
        refine wa_iload_n C 2 126 dX2_keptIn_125 rfl rfl ?_
        refine wa_iconst (v := 1) C 127 dX2_keptIn_126 rfl rfl ?_
        refine wa_iload_n C 3 128 dX2_keptIn_127 rfl rfl ?_
        refine wa_ishl C 129 dX2_keptIn_128 rfl ?_
        refine wa_ior C 130 dX2_keptIn_129 rfl ?_
        obtain ⟨x21, ex21, hf⟩ := bnd_ex hf
        refine wa_topi ex21 ?_
        refine wa_istore_n (lv' := [(0, .ref (a 0)), (1, .ref (a0 0)), (2, .int x21), (3, .int l3)]) C [1, 2, 0, 3] 131 dX2_keptIn_130 rfl (Nat.le_of_ble_eq_true rfl) rfl ?_
        obtain ⟨x22, ex22, hf⟩ := bnd_ex hf
        refine wa_iinc (v := x22) (lv' := [(0, .ref (a 0)), (1, .ref (a0 0)), (2, .int x21), (3, .int x22)]) C 3 [1, 2, 3, 0] 134 dX2_keptIn_131 rfl rfl (by rw [ex22]; rfl) (Nat.le_of_ble_eq_true rfl) rfl ?_
        refine wa_goto C 48 dX2_keptIn_134 rfl ?_
        exact ih x21 x22 y17 q18.2 hf
set_option maxRecDepth 20000 in
theorem w_X2_keptIn_L10 {p : Program} {l : Launch} {e : Env} {s : State} {m : MethodId} {args : Array Value} {below : List Frame} {meth : Method} {c : Code} {D : va_G} {A : Nat → Prop} {dT : Nat → ClassId} {a : Nat → Nat} {a_p : Nat → Nat} {a_k : Nat → Nat} {a0 : Nat → Nat} {res : Int32 × Ob × Ob} {z1 : Ob} {z3 : Ob} (C : Cx p s m args meth c cX2_keptIn 4 RX2 (some .int) D A dT) : ∀ (n : Nat) (l2 : Int32) (z0 : Ob) (z2 : Ob), f_X2_keptIn_L10 z1 z3 n l2 z0 z2 = some res → WA p l e ({ frames := 1, cells := 0, slots := 0, locals := 27 } : Room) s m args below meth c (MQ below (QI D dT A ([wD dT a (a_p 0) (a_k 0) res.2.1, wR dT a_p z1, wR dT a_k res.2.2, wV dT a0 z3]) res.1) args s 0 0 A) D A 0 0 4 10 ([wD dT a (a_p 0) (a_k 0) z0, wR dT a_p z1, wR dT a_k z2, wV dT a0 z3]) [(0, .ref (a 0)), (1, .ref (a0 0)), (2, .int l2)] [] := by
  intro n
  induction n with
  | zero => intro l2 z0 z2 hf; cases hf
  | succ n ih =>
    intro l2 z0 z2 hf
    unfold f_X2_keptIn_L10 at hf
    refine wa_iload_n C 2 11 dX2_keptIn_10 rfl rfl ?_
    refine wa_aload_n C 1 12 dX2_keptIn_11 rfl rfl ?_
    refine wa_get C 15 3 0 0 dX2_keptIn_12 rfl iX10 q52 rfl (Nat.le_of_ble_eq_true rfl) rfl rfl rfl ?_
    refine wa_icmp_ge C 44 18 dX2_keptIn_15 rfl rfl (fun c3 => ?_) (fun c3 => ?_)
    · replace hf := ite_t hf c3
      refine wa_iconst (v := 0) C 45 dX2_keptIn_44 rfl rfl ?_
      refine wa_istore_n (lv' := [(0, .ref (a 0)), (1, .ref (a0 0)), (2, .int (0 : Int32))]) C [1, 2, 0] 46 dX2_keptIn_45 rfl (Nat.le_of_ble_eq_true rfl) rfl ?_
      refine wa_iconst (v := 0) C 47 dX2_keptIn_46 rfl rfl ?_
      refine wa_istore_n (lv' := [(0, .ref (a 0)), (1, .ref (a0 0)), (2, .int (0 : Int32)), (3, .int (0 : Int32))]) C [1, 2, 3, 0] 48 dX2_keptIn_47 rfl (Nat.le_of_ble_eq_true rfl) rfl ?_
      exact w_X2_keptIn_L48 C FUEL (0 : Int32) (0 : Int32) z0 z2 hf
    · replace hf := ite_f hf c3
      refine wa_aload_n C 0 19 dX2_keptIn_18 rfl rfl ?_
      refine wa_get C 22 0 0 4 dX2_keptIn_19 rfl iX2 q211 rfl (Nat.le_of_ble_eq_true rfl) rfl rfl rfl ?_
      refine wa_aload_n C 1 23 dX2_keptIn_22 rfl rfl ?_
      refine wa_get C 26 3 0 4 dX2_keptIn_23 rfl iX10 q73 rfl (Nat.le_of_ble_eq_true rfl) rfl rfl rfl ?_
      refine wa_iload_n C 2 27 dX2_keptIn_26 rfl rfl ?_
      obtain ⟨g23, hf⟩ := grd_ex hf
      refine wa_iald C 28 3 2 dX2_keptIn_27 rfl rfl rfl (vi_in g23) ?_
      refine wa_dup2 C 29 dX2_keptIn_28 rfl rfl rfl ?_
      obtain ⟨g24, hf⟩ := grd_ex hf
      refine wa_iald C 30 0 3 dX2_keptIn_29 rfl rfl rfl (vi_in g24) ?_
      refine wa_aload_n C 1 31 dX2_keptIn_30 rfl rfl ?_
      refine wa_get C 34 3 0 3 dX2_keptIn_31 rfl iX10 q66 rfl (Nat.le_of_ble_eq_true rfl) rfl rfl rfl ?_
      refine wa_iload_n C 2 35 dX2_keptIn_34 rfl rfl ?_
      obtain ⟨g25, hf⟩ := grd_ex hf
      refine wa_iald C 36 3 1 dX2_keptIn_35 rfl rfl rfl (vi_in g25) ?_
      refine wa_iadd C 37 dX2_keptIn_36 rfl ?_
      obtain ⟨g26, hf⟩ := grd_ex hf
      obtain ⟨y27, ey27, hf⟩ := bnd_ex hf
      refine wa_iast (ws' := [wD dT a (a_p 0) (a_k 0) y27, wR dT a_p z1, wR dT a_k z2, wV dT a0 z3]) C 38 0 3 dX2_keptIn_37 rfl rfl rfl (vi_in g26) (by rw [ey27]; rfl) ?_
      obtain ⟨x28, ex28, hf⟩ := bnd_ex hf
      refine wa_iinc (v := x28) (lv' := [(0, .ref (a 0)), (1, .ref (a0 0)), (2, .int x28)]) C 2 [1, 2, 0] 41 dX2_keptIn_38 rfl rfl (by rw [ex28]; rfl) (Nat.le_of_ble_eq_true rfl) rfl ?_
      refine wa_goto C 10 dX2_keptIn_41 rfl ?_
      exact ih x28 y27 z2 hf
set_option maxRecDepth 20000 in
theorem c_X2_keptIn {l : Launch} {D : va_G} {dT : Nat → ClassId} {a : Nat → Nat} {a_p : Nat → Nat} {a_k : Nat → Nat} {a0 : Nat → Nat} {v : Ob} {v_p : Ob} {v_k : Ob} {v0 : Ob} {res : Int32 × Ob × Ob} (hf : f_X2_keptIn v v_p v_k v0 = some res) : CTi l yX2_keptIn cX2_keptIn 4 (some .int) ({ frames := 1, cells := 0, slots := 0, locals := 27 } : Room) D dT [.ref (a 0), .ref (a0 0)] ([wD dT a (a_p 0) (a_k 0) v, wR dT a_p v_p, wR dT a_k v_k, wV dT a0 v0]) ([wD dT a (a_p 0) (a_k 0) res.2.1, wR dT a_p v_p, wR dT a_k res.2.2, wV dT a0 v0]) res.1 := by
  refine CTi.of (by decide) (Nat.le_of_ble_eq_true rfl) rfl ?_
  intro p e s m args below meth c A C
  unfold f_X2_keptIn at hf
  refine wa_aload_n C 0 1 dX2_keptIn_0 rfl rfl ?_
  refine wa_get C 4 0 0 4 dX2_keptIn_1 rfl iX2 q211 rfl (Nat.le_of_ble_eq_true rfl) rfl rfl rfl ?_
  refine wa_iconst (v := 0) C 5 dX2_keptIn_4 rfl rfl ?_
  refine wa_open 0 3 rfl rfl ?_
  obtain ⟨q1, hq1, hf⟩ := bind_ex hf
  obtain ⟨y2, ey2, hf⟩ := bnd_ex hf
  refine wa_callSv (ws' := [(wD dT a (a_p 0) (a_k 0) v).eraseIdx 3, wR dT a_p v_p, wR dT a_k v_k, wV dT a0 v0, [(a 3, .inl (dT 0, 13, .inl q1))]]) (As := [.ref (a 3), .int (0 : Int32)]) C 8 dX2_keptIn_5 rfl ks_X2_62 (c_J7_fill_53178 hq1) ⟨rfl, rfl⟩ ⟨Nat.le_of_ble_eq_true rfl, Nat.le_of_ble_eq_true rfl⟩ [4] [0, 1, 2, 3] [0, 1, 2, 3, 4] rfl rfl rfl rfl (by decide) rfl rfl rfl rfl ⟨Nat.zero_le _, Nat.zero_le _⟩ (Nat.le_of_ble_eq_true rfl) ?_
  refine wa_close (ws := [(wD dT a (a_p 0) (a_k 0) v).eraseIdx 3, wR dT a_p v_p, wR dT a_k v_k, wV dT a0 v0]) (ws' := [wD dT a (a_p 0) (a_k 0) y2, wR dT a_p v_p, wR dT a_k v_k, wV dT a0 v0]) 0 3 (wD dT a (a_p 0) (a_k 0) y2) (by rw [ey2]; rfl) (by rw [ey2]; rfl) rfl ?_
  refine wa_iconst (v := 0) C 9 dX2_keptIn_8 rfl rfl ?_
  refine wa_istore_n (lv' := [(0, .ref (a 0)), (1, .ref (a0 0)), (2, .int (0 : Int32))]) C [1, 2, 0] 10 dX2_keptIn_9 rfl (Nat.le_of_ble_eq_true rfl) rfl ?_
  exact w_X2_keptIn_L10 C FUEL (0 : Int32) y2 v_k hf
