theorem kv_X9_76 : KV RX9 76 yX10_inOne cX10_inOne 3 (some .boolean) 2 := KV.mk q1242 q972 q973 q3 q974 ⟨by decide, by decide, by decide +kernel⟩
theorem kv_X9_80 : KV RX9 80 yX2_pass cX2_pass 4 (some .int) 2 := KV.mk q593 q460 q461 q6 q462 ⟨by decide, by decide, by decide +kernel⟩
def f_X9_untilMet_L3 (l1 : Int32) (l2 : Int32) (l3 : Int32) (z0 : Ob) (z5 : Ob) : Nat → Int32 → Ob → Ob → Ob → Ob → Option (Int32 × Ob × Ob × Ob × Ob)
  | 0, _, _, _, _, _ => none
  | n + 1, l4, z1, z2, z3, z4 => (if l3 < l4 then some ((-1 : Int32), z1, z2, z3, z4) else (f_X10_inOne z4 l1 l2).bind (fun q2 => (if q2 = 0 then (if l3 ≤ l4 then bnd (l4 + 1) (fun x5 => f_X9_untilMet_L3 l1 l2 l3 z0 z5 n x5 z1 z2 z3 z4) else (f_X2_pass z1 z2 z3 z4 (0 : Int32)).bind (fun q6 => bnd (l4 + 1) (fun x7 => f_X9_untilMet_L3 l1 l2 l3 z0 z5 n x7 q6.2.1 q6.2.2.1 q6.2.2.2.1 q6.2.2.2.2))) else some (l4, z1, z2, z3, z4))))
def f_X9_untilMet (v : Ob) (v_d : Ob) (v_d_p : Ob) (v_d_k : Ob) (v_t : Ob) (v_k : Ob) (p0 : Int32) (p1 : Int32) (p2 : Int32) : Option (Int32 × Ob × Ob × Ob × Ob) := f_X9_untilMet_L3 p0 p1 p2 v v_k FUEL (0 : Int32) v_d v_d_p v_d_k v_t
set_option maxRecDepth 20000 in
theorem w_X9_untilMet_L3 {p : Program} {l : Launch} {e : Env} {s : State} {m : MethodId} {args : Array Value} {below : List Frame} {meth : Method} {c : Code} {D : va_G} {A : Nat → Prop} {dT : Nat → ClassId} {a : Nat → Nat} {a_d : Nat → Nat} {a_d_p : Nat → Nat} {a_d_k : Nat → Nat} {a_t : Nat → Nat} {a_k : Nat → Nat} {res : Int32 × Ob × Ob × Ob × Ob} {l1 : Int32} {l2 : Int32} {l3 : Int32} {z0 : Ob} {z5 : Ob} (C : Cx p s m args meth c cX9_untilMet 5 RX9 (some .int) D A dT) : ∀ (n : Nat) (l4 : Int32) (z1 : Ob) (z2 : Ob) (z3 : Ob) (z4 : Ob), f_X9_untilMet_L3 l1 l2 l3 z0 z5 n l4 z1 z2 z3 z4 = some res → WA p l e ({ frames := 6, cells := 0, slots := 0, locals := 130 } : Room) s m args below meth c (MQ below (QI D dT A ([wT dT a (a_d 0) (a_t 0) (a_k 0) z0, wD dT a_d (a_d_p 0) (a_d_k 0) res.2.1, wR dT a_d_p res.2.2.1, wR dT a_d_k res.2.2.2.1, wV dT a_t res.2.2.2.2, wK dT a_k z5]) res.1) args s 0 0 A) D A 0 0 5 3 ([wT dT a (a_d 0) (a_t 0) (a_k 0) z0, wD dT a_d (a_d_p 0) (a_d_k 0) z1, wR dT a_d_p z2, wR dT a_d_k z3, wV dT a_t z4, wK dT a_k z5]) [(0, .ref (a 0)), (1, .int l1), (2, .int l2), (3, .int l3), (4, .int l4)] [] := by
  intro n
  induction n with
  | zero => intro l4 z1 z2 z3 z4 hf; cases hf
  | succ n ih =>
    intro l4 z1 z2 z3 z4 hf
    unfold f_X9_untilMet_L3 at hf
    refine wa_iload C 4 5 dX9_untilMet_3 rfl rfl ?_
    refine wa_iload_n C 3 6 dX9_untilMet_5 rfl rfl ?_
    refine wa_icmp_gt C 49 9 dX9_untilMet_6 rfl rfl (fun c1 => ?_) (fun c1 => ?_)
    · replace hf := ite_t hf c1
      refine wa_iconst (v := (-1)) C 50 dX9_untilMet_49 rfl rfl ?_
      cases hf
      exact wa_iret C dX9_untilMet_50 rfl rfl
    · replace hf := ite_f hf c1
      refine wa_aload_n C 0 10 dX9_untilMet_9 rfl rfl ?_
      refine wa_get C 13 0 0 1 dX9_untilMet_10 rfl iX9 q328 rfl (Nat.le_of_ble_eq_true rfl) rfl rfl rfl ?_
      refine wa_iload_n C 1 14 dX9_untilMet_13 rfl rfl ?_
      refine wa_iload_n C 2 15 dX9_untilMet_14 rfl rfl ?_
      obtain ⟨q2, hq2, hf⟩ := bind_ex hf
      refine wa_callVi (b1 := 4) (q1 := 0) (ci := 10) (ws' := [wT dT a (a_d 0) (a_t 0) (a_k 0) z0, wD dT a_d (a_d_p 0) (a_d_k 0) z1, wR dT a_d_p z2, wR dT a_d_k z3, wV dT a_t z4, wK dT a_k z5]) (As := [.int l1, .int l2]) C 18 dX9_untilMet_15 rfl kv_X9_76 (c_X10_inOne hq2) ⟨rfl, rfl⟩ ⟨Nat.le_of_ble_eq_true rfl, Nat.le_of_ble_eq_true rfl⟩ rfl rfl rfl [4] [0, 1, 2, 3, 5] [0, 1, 2, 3, 5, 4] rfl rfl rfl rfl (by decide) rfl rfl rfl rfl ⟨Nat.zero_le _, Nat.zero_le _⟩ (Nat.le_of_ble_eq_true rfl) ?_
      refine wa_if_eq C 24 21 dX9_untilMet_18 rfl rfl (fun c3 => ?_) (fun c3 => ?_)
      · replace hf := ite_t hf c3
        refine wa_iload C 4 26 dX9_untilMet_24 rfl rfl ?_
        refine wa_iload_n C 3 27 dX9_untilMet_26 rfl rfl ?_
        refine wa_icmp_ge C 43 30 dX9_untilMet_27 rfl rfl (fun c4 => ?_) (fun c4 => ?_)
        · replace hf := ite_t hf c4
          obtain ⟨x5, ex5, hf⟩ := bnd_ex hf
          refine wa_iinc (v := x5) (lv' := [(0, .ref (a 0)), (1, .int l1), (2, .int l2), (3, .int l3), (4, .int x5)]) C 4 [1, 2, 3, 4, 0] 46 dX9_untilMet_43 rfl rfl (by rw [ex5]; rfl) (Nat.le_of_ble_eq_true rfl) rfl ?_
          refine wa_goto C 3 dX9_untilMet_46 rfl ?_
          exact ih x5 z1 z2 z3 z4 hf
        · replace hf := ite_f hf c4
          refine wa_aload_n C 0 31 dX9_untilMet_30 rfl rfl ?_
          refine wa_get C 34 0 0 0 dX9_untilMet_31 rfl iX9 q327 rfl (Nat.le_of_ble_eq_true rfl) rfl rfl rfl ?_
          refine wa_aload_n C 0 35 dX9_untilMet_34 rfl rfl ?_
          refine wa_get C 38 0 0 1 dX9_untilMet_35 rfl iX9 q328 rfl (Nat.le_of_ble_eq_true rfl) rfl rfl rfl ?_
          refine wa_iconst (v := 0) C 39 dX9_untilMet_38 rfl rfl ?_
          obtain ⟨q6, hq6, hf⟩ := bind_ex hf
          refine wa_callVi (b1 := 1) (q1 := 0) (ci := 2) (ws' := [wT dT a (a_d 0) (a_t 0) (a_k 0) z0, wD dT a_d (a_d_p 0) (a_d_k 0) q6.2.1, wR dT a_d_p q6.2.2.1, wR dT a_d_k q6.2.2.2.1, wV dT a_t q6.2.2.2.2, wK dT a_k z5]) (As := [.ref (a_t 0), .int (0 : Int32)]) C 42 dX9_untilMet_39 rfl kv_X9_80 (c_X2_pass hq6) ⟨rfl, rfl⟩ ⟨Nat.le_of_ble_eq_true rfl, Nat.le_of_ble_eq_true rfl⟩ rfl rfl rfl [1, 2, 3, 4] [0, 5] [0, 2, 3, 4, 5, 1] rfl rfl rfl rfl (by decide) rfl rfl rfl rfl ⟨Nat.zero_le _, Nat.zero_le _⟩ (Nat.le_of_ble_eq_true rfl) ?_
          refine wa_pop C 43 dX9_untilMet_42 rfl rfl ?_
          obtain ⟨x7, ex7, hf⟩ := bnd_ex hf
          refine wa_iinc (v := x7) (lv' := [(0, .ref (a 0)), (1, .int l1), (2, .int l2), (3, .int l3), (4, .int x7)]) C 4 [1, 2, 3, 4, 0] 46 dX9_untilMet_43 rfl rfl (by rw [ex7]; rfl) (Nat.le_of_ble_eq_true rfl) rfl ?_
          refine wa_goto C 3 dX9_untilMet_46 rfl ?_
          exact ih x7 q6.2.1 q6.2.2.1 q6.2.2.2.1 q6.2.2.2.2 hf
      · replace hf := ite_f hf c3
        refine wa_iload C 4 23 dX9_untilMet_21 rfl rfl ?_
        cases hf
        exact wa_iret C dX9_untilMet_23 rfl rfl
set_option maxRecDepth 20000 in
theorem c_X9_untilMet {l : Launch} {D : va_G} {dT : Nat → ClassId} {a : Nat → Nat} {a_d : Nat → Nat} {a_d_p : Nat → Nat} {a_d_k : Nat → Nat} {a_t : Nat → Nat} {a_k : Nat → Nat} {v : Ob} {v_d : Ob} {v_d_p : Ob} {v_d_k : Ob} {v_t : Ob} {v_k : Ob} {p0 : Int32} {p1 : Int32} {p2 : Int32} {res : Int32 × Ob × Ob × Ob × Ob} (hf : f_X9_untilMet v v_d v_d_p v_d_k v_t v_k p0 p1 p2 = some res) : CTi l yX9_untilMet cX9_untilMet 5 (some .int) ({ frames := 6, cells := 0, slots := 0, locals := 130 } : Room) D dT [.ref (a 0), .int p0, .int p1, .int p2] ([wT dT a (a_d 0) (a_t 0) (a_k 0) v, wD dT a_d (a_d_p 0) (a_d_k 0) v_d, wR dT a_d_p v_d_p, wR dT a_d_k v_d_k, wV dT a_t v_t, wK dT a_k v_k]) ([wT dT a (a_d 0) (a_t 0) (a_k 0) v, wD dT a_d (a_d_p 0) (a_d_k 0) res.2.1, wR dT a_d_p res.2.2.1, wR dT a_d_k res.2.2.2.1, wV dT a_t res.2.2.2.2, wK dT a_k v_k]) res.1 := by
  refine CTi.of (by decide) (Nat.le_of_ble_eq_true rfl) rfl ?_
  intro p e s m args below meth c A C
  unfold f_X9_untilMet at hf
  refine wa_iconst (v := 0) C 1 dX9_untilMet_0 rfl rfl ?_
  refine wa_istore (lv' := [(0, .ref (a 0)), (1, .int p0), (2, .int p1), (3, .int p2), (4, .int (0 : Int32))]) C [1, 2, 3, 4, 0] 3 dX9_untilMet_1 rfl (Nat.le_of_ble_eq_true rfl) rfl ?_
  exact w_X9_untilMet_L3 C FUEL (0 : Int32) v_d v_d_p v_d_k v_t hf
theorem kv_X9_64 : KV RX9 64 yX10_copyFrom cX10_copyFrom 2 none 1 := KV.mk q580 q443 q444 q3 q445 ⟨by decide, by decide, by decide +kernel⟩
theorem kv_X9_68 : KV RX9 68 yX10_moveTo cX10_moveTo 3 none 2 := KV.mk q1237 q1071 q1072 q3 q1073 ⟨by decide, by decide, by decide +kernel⟩
theorem kv_X9_72 : KV RX9 72 yX9_untilMet cX9_untilMet 5 (some .int) 3 := KV.mk q1238 q1240 qs37 q12 q1241 ⟨by decide, by decide, by decide +kernel⟩
def f_X9_bestMove_L40 (k28 : Int32 → Int32 → Int32 → Ob → Ob → Ob → Ob → Option (Int32 × Ob × Ob × Ob × Ob)) (l2 : Int32) (l3 : Int32) (l7 : Int32) (z0 : Ob) (z5 : Ob) (z6 : Ob) : Nat → Int32 → Int32 → Int32 → Ob → Ob → Ob → Ob → Option (Int32 × Ob × Ob × Ob × Ob)
  | 0, _, _, _, _, _, _, _ => none
  | n + 1, l5, l6, l8, z1, z2, z3, z4 => (if (z6.1 1) ≤ l8 then bnd (l7 + 1) (fun x5 => k28 l5 l6 x5 z1 z2 z3 z4) else (if l6 ≤ 0 then bnd (l8 + 1) (fun x7 => f_X9_bestMove_L40 k28 l2 l3 l7 z0 z5 z6 n l5 l6 x7 z1 z2 z3 z4) else grd (vi l7 12) ((if (z6.2 2 (l7).toNatClampNeg) = l8 then bnd (l8 + 1) (fun x10 => f_X9_bestMove_L40 k28 l2 l3 l7 z0 z5 z6 n l5 l6 x10 z1 z2 z3 z4) else (f_X10_copyFrom z4 z6).bind (fun q11 => (f_X10_moveTo q11 l7 l8).bind (fun q12 => (f_X9_untilMet z0 z1 z2 z3 q12 z5 l2 l3 l6).bind (fun q13 => (if q13.1 ≤ 0 then bnd (l8 + 1) (fun x15 => f_X9_bestMove_L40 k28 l2 l3 l7 z0 z5 z6 n l5 l6 x15 q13.2.1 q13.2.2.1 q13.2.2.2.1 q13.2.2.2.2) else bnd (((100 : Int32) * l7) + l8) (fun x16 => bnd (q13.1 - (1 : Int32)) (fun x17 => bnd (l8 + 1) (fun x18 => f_X9_bestMove_L40 k28 l2 l3 l7 z0 z5 z6 n x16 x17 x18 q13.2.1 q13.2.2.1 q13.2.2.2.1 q13.2.2.2.2)))))))))))
def f_X9_bestMove_L28 (l2 : Int32) (l3 : Int32) (z0 : Ob) (z5 : Ob) (z6 : Ob) : Nat → Int32 → Int32 → Int32 → Ob → Ob → Ob → Ob → Option (Int32 × Ob × Ob × Ob × Ob)
  | 0, _, _, _, _, _, _, _ => none
  | n + 1, l5, l6, l7, z1, z2, z3, z4 => (if (z6.1 0) ≤ l7 then some (l5, z1, z2, z3, z4) else f_X9_bestMove_L40 (f_X9_bestMove_L28 l2 l3 z0 z5 z6 n) l2 l3 l7 z0 z5 z6 FUEL l5 l6 (0 : Int32) z1 z2 z3 z4)
def f_X9_bestMove (v : Ob) (v_d : Ob) (v_d_p : Ob) (v_d_k : Ob) (v_t : Ob) (v_k : Ob) (v0 : Ob) (p1 : Int32) (p2 : Int32) (p3 : Int32) : Option (Int32 × Ob × Ob × Ob × Ob) := (if p3 = (-1 : Int32) then f_X9_bestMove_L28 p1 p2 v v_k v0 FUEL (-1 : Int32) (60 : Int32) (0 : Int32) v_d v_d_p v_d_k v_t else bnd (if (p3 - (1 : Int32)) < (60 : Int32) then (p3 - (1 : Int32)) else (60 : Int32)) (fun x2 => f_X9_bestMove_L28 p1 p2 v v_k v0 FUEL (-1 : Int32) x2 (0 : Int32) v_d v_d_p v_d_k v_t))
set_option maxRecDepth 20000 in
theorem w_X9_bestMove_L40 {p : Program} {l : Launch} {e : Env} {s : State} {m : MethodId} {args : Array Value} {below : List Frame} {meth : Method} {c : Code} {D : va_G} {A : Nat → Prop} {dT : Nat → ClassId} {a : Nat → Nat} {a_d : Nat → Nat} {a_d_p : Nat → Nat} {a_d_k : Nat → Nat} {a_t : Nat → Nat} {a_k : Nat → Nat} {a0 : Nat → Nat} {res : Int32 × Ob × Ob × Ob × Ob} {l2 : Int32} {l3 : Int32} {l7 : Int32} {z0 : Ob} {z5 : Ob} {z6 : Ob} (C : Cx p s m args meth c cX9_bestMove 10 RX9 (some .int) D A dT) {k28 : Int32 → Int32 → Int32 → Ob → Ob → Ob → Ob → Option (Int32 × Ob × Ob × Ob × Ob)} (hk28 : ∀ (l5 : Int32) (l6 : Int32) (l7 : Int32) (z1 : Ob) (z2 : Ob) (z3 : Ob) (z4 : Ob), k28 l5 l6 l7 z1 z2 z3 z4 = some res → WA p l e ({ frames := 7, cells := 0, slots := 0, locals := 154 } : Room) s m args below meth c (MQ below (QI D dT A ([wT dT a (a_d 0) (a_t 0) (a_k 0) z0, wD dT a_d (a_d_p 0) (a_d_k 0) res.2.1, wR dT a_d_p res.2.2.1, wR dT a_d_k res.2.2.2.1, wV dT a_t res.2.2.2.2, wK dT a_k z5, wV dT a0 z6]) res.1) args s 0 0 A) D A 0 0 10 28 ([wT dT a (a_d 0) (a_t 0) (a_k 0) z0, wD dT a_d (a_d_p 0) (a_d_k 0) z1, wR dT a_d_p z2, wR dT a_d_k z3, wV dT a_t z4, wK dT a_k z5, wV dT a0 z6]) [(0, .ref (a 0)), (1, .ref (a0 0)), (2, .int l2), (3, .int l3), (5, .int l5), (6, .int l6), (7, .int l7)] []) : ∀ (n : Nat) (l5 : Int32) (l6 : Int32) (l8 : Int32) (z1 : Ob) (z2 : Ob) (z3 : Ob) (z4 : Ob), f_X9_bestMove_L40 k28 l2 l3 l7 z0 z5 z6 n l5 l6 l8 z1 z2 z3 z4 = some res → WA p l e ({ frames := 7, cells := 0, slots := 0, locals := 154 } : Room) s m args below meth c (MQ below (QI D dT A ([wT dT a (a_d 0) (a_t 0) (a_k 0) z0, wD dT a_d (a_d_p 0) (a_d_k 0) res.2.1, wR dT a_d_p res.2.2.1, wR dT a_d_k res.2.2.2.1, wV dT a_t res.2.2.2.2, wK dT a_k z5, wV dT a0 z6]) res.1) args s 0 0 A) D A 0 0 10 40 ([wT dT a (a_d 0) (a_t 0) (a_k 0) z0, wD dT a_d (a_d_p 0) (a_d_k 0) z1, wR dT a_d_p z2, wR dT a_d_k z3, wV dT a_t z4, wK dT a_k z5, wV dT a0 z6]) [(0, .ref (a 0)), (1, .ref (a0 0)), (2, .int l2), (3, .int l3), (5, .int l5), (6, .int l6), (7, .int l7), (8, .int l8)] [] := by
  intro n
  induction n with
  | zero => intro l5 l6 l8 z1 z2 z3 z4 hf; cases hf
  | succ n ih =>
    intro l5 l6 l8 z1 z2 z3 z4 hf
    unfold f_X9_bestMove_L40 at hf
    refine wa_iload C 7 42 dX9_bestMove_40 rfl rfl ?_
    refine wa_aload_n C 1 43 dX9_bestMove_42 rfl rfl ?_
    refine wa_get C 46 6 0 1 dX9_bestMove_43 rfl iX10 q58 rfl (Nat.le_of_ble_eq_true rfl) rfl rfl rfl ?_
    refine wa_icmp_ge C 122 49 dX9_bestMove_46 rfl rfl (fun c4 => ?_) (fun c4 => ?_)
    · replace hf := ite_t hf c4
      obtain ⟨x5, ex5, hf⟩ := bnd_ex hf
      refine wa_iinc (v := x5) (lv' := [(0, .ref (a 0)), (1, .ref (a0 0)), (2, .int l2), (3, .int l3), (5, .int l5), (6, .int l6), (7, .int x5), (8, .int l8)]) C 6 [1, 2, 3, 4, 5, 6, 0, 7] 125 dX9_bestMove_122 rfl rfl (by rw [ex5]; rfl) (Nat.le_of_ble_eq_true rfl) rfl ?_
      refine wa_goto C 28 dX9_bestMove_125 rfl ?_
      refine wa_lv (lv' := [(0, .ref (a 0)), (1, .ref (a0 0)), (2, .int l2), (3, .int l3), (5, .int l5), (6, .int l6), (7, .int x5)]) [0, 1, 2, 3, 4, 5, 6] rfl ?_
      exact hk28 l5 l6 x5 z1 z2 z3 z4 hf
    · replace hf := ite_f hf c4
      refine wa_iload C 5 51 dX9_bestMove_49 rfl rfl ?_
      refine wa_if_le C 116 54 dX9_bestMove_51 rfl rfl (fun c6 => ?_) (fun c6 => ?_)
      · replace hf := ite_t hf c6
        obtain ⟨x7, ex7, hf⟩ := bnd_ex hf
        refine wa_iinc (v := x7) (lv' := [(0, .ref (a 0)), (1, .ref (a0 0)), (2, .int l2), (3, .int l3), (5, .int l5), (6, .int l6), (7, .int l7), (8, .int x7)]) C 7 [1, 2, 3, 4, 5, 6, 7, 0] 119 dX9_bestMove_116 rfl rfl (by rw [ex7]; rfl) (Nat.le_of_ble_eq_true rfl) rfl ?_
        refine wa_goto C 40 dX9_bestMove_119 rfl ?_
        exact ih l5 l6 x7 z1 z2 z3 z4 hf
      · replace hf := ite_f hf c6
        refine wa_aload_n C 1 55 dX9_bestMove_54 rfl rfl ?_
        refine wa_get C 58 6 0 4 dX9_bestMove_55 rfl iX10 q71 rfl (Nat.le_of_ble_eq_true rfl) rfl rfl rfl ?_
        refine wa_iload C 6 60 dX9_bestMove_58 rfl rfl ?_
        obtain ⟨g8, hf⟩ := grd_ex hf
        refine wa_iald C 61 6 2 dX9_bestMove_60 rfl rfl rfl (vi_in g8) ?_
        refine wa_iload C 7 63 dX9_bestMove_61 rfl rfl ?_
        refine wa_icmp_eq C 116 66 dX9_bestMove_63 rfl rfl (fun c9 => ?_) (fun c9 => ?_)
        · replace hf := ite_t hf c9
          obtain ⟨x10, ex10, hf⟩ := bnd_ex hf
          refine wa_iinc (v := x10) (lv' := [(0, .ref (a 0)), (1, .ref (a0 0)), (2, .int l2), (3, .int l3), (5, .int l5), (6, .int l6), (7, .int l7), (8, .int x10)]) C 7 [1, 2, 3, 4, 5, 6, 7, 0] 119 dX9_bestMove_116 rfl rfl (by rw [ex10]; rfl) (Nat.le_of_ble_eq_true rfl) rfl ?_
          refine wa_goto C 40 dX9_bestMove_119 rfl ?_
          exact ih l5 l6 x10 z1 z2 z3 z4 hf
        · replace hf := ite_f hf c9
          refine wa_aload_n C 0 67 dX9_bestMove_66 rfl rfl ?_
          refine wa_get C 70 0 0 1 dX9_bestMove_67 rfl iX9 q328 rfl (Nat.le_of_ble_eq_true rfl) rfl rfl rfl ?_
          refine wa_aload_n C 1 71 dX9_bestMove_70 rfl rfl ?_
          obtain ⟨q11, hq11, hf⟩ := bind_ex hf
          refine wa_callVv (b1 := 4) (q1 := 0) (ci := 10) (ws' := [wT dT a (a_d 0) (a_t 0) (a_k 0) z0, wD dT a_d (a_d_p 0) (a_d_k 0) z1, wR dT a_d_p z2, wR dT a_d_k z3, wV dT a_t q11, wK dT a_k z5, wV dT a0 z6]) (As := [.ref (a0 0)]) C 74 dX9_bestMove_71 rfl kv_X9_64 (c_X10_copyFrom hq11) ⟨rfl, rfl⟩ ⟨Nat.le_of_ble_eq_true rfl, Nat.le_of_ble_eq_true rfl⟩ rfl rfl rfl [4, 6] [0, 1, 2, 3, 5] [0, 1, 2, 3, 5, 4, 6] rfl rfl rfl rfl (by decide) rfl rfl rfl rfl ⟨Nat.zero_le _, Nat.zero_le _⟩ (Nat.le_of_ble_eq_true rfl) ?_
          refine wa_aload_n C 0 75 dX9_bestMove_74 rfl rfl ?_
          refine wa_get C 78 0 0 1 dX9_bestMove_75 rfl iX9 q328 rfl (Nat.le_of_ble_eq_true rfl) rfl rfl rfl ?_
          refine wa_iload C 6 80 dX9_bestMove_78 rfl rfl ?_
          refine wa_iload C 7 82 dX9_bestMove_80 rfl rfl ?_
          obtain ⟨q12, hq12, hf⟩ := bind_ex hf
          refine wa_callVv (b1 := 4) (q1 := 0) (ci := 10) (ws' := [wT dT a (a_d 0) (a_t 0) (a_k 0) z0, wD dT a_d (a_d_p 0) (a_d_k 0) z1, wR dT a_d_p z2, wR dT a_d_k z3, wV dT a_t q12, wK dT a_k z5, wV dT a0 z6]) (As := [.int l7, .int l8]) C 85 dX9_bestMove_82 rfl kv_X9_68 (c_X10_moveTo hq12) ⟨rfl, rfl⟩ ⟨Nat.le_of_ble_eq_true rfl, Nat.le_of_ble_eq_true rfl⟩ rfl rfl rfl [4] [0, 1, 2, 3, 5, 6] [0, 1, 2, 3, 6, 4, 5] rfl rfl rfl rfl (by decide) rfl rfl rfl rfl ⟨Nat.zero_le _, Nat.zero_le _⟩ (Nat.le_of_ble_eq_true rfl) ?_
          refine wa_aload_n C 0 86 dX9_bestMove_85 rfl rfl ?_
          refine wa_iload_n C 2 87 dX9_bestMove_86 rfl rfl ?_
          refine wa_iload_n C 3 88 dX9_bestMove_87 rfl rfl ?_
          refine wa_iload C 5 90 dX9_bestMove_88 rfl rfl ?_
          obtain ⟨q13, hq13, hf⟩ := bind_ex hf
          refine wa_callVi (b1 := 0) (q1 := 0) (ci := 9) (ws' := [wT dT a (a_d 0) (a_t 0) (a_k 0) z0, wD dT a_d (a_d_p 0) (a_d_k 0) q13.2.1, wR dT a_d_p q13.2.2.1, wR dT a_d_k q13.2.2.2.1, wV dT a_t q13.2.2.2.2, wK dT a_k z5, wV dT a0 z6]) (As := [.int l2, .int l3, .int l6]) C 93 dX9_bestMove_90 rfl kv_X9_72 (c_X9_untilMet hq13) ⟨rfl, rfl⟩ ⟨Nat.le_of_ble_eq_true rfl, Nat.le_of_ble_eq_true rfl⟩ rfl rfl rfl [0, 1, 2, 3, 4, 5] [6] [1, 2, 3, 4, 5, 6, 0] rfl rfl rfl rfl (by decide) rfl rfl rfl rfl ⟨Nat.zero_le _, Nat.zero_le _⟩ (Nat.le_of_ble_eq_true rfl) ?_
          refine wa_istore (lv' := [(0, .ref (a 0)), (1, .ref (a0 0)), (2, .int l2), (3, .int l3), (5, .int l5), (6, .int l6), (7, .int l7), (8, .int l8), (9, .int q13.1)]) C [1, 2, 3, 4, 5, 6, 7, 8, 0] 95 dX9_bestMove_93 rfl (Nat.le_of_ble_eq_true rfl) rfl ?_
          refine wa_iload C 8 97 dX9_bestMove_95 rfl rfl ?_
          refine wa_if_le C 116 100 dX9_bestMove_97 rfl rfl (fun c14 => ?_) (fun c14 => ?_)
          · replace hf := ite_t hf c14
            obtain ⟨x15, ex15, hf⟩ := bnd_ex hf
            refine wa_iinc (v := x15) (lv' := [(0, .ref (a 0)), (1, .ref (a0 0)), (2, .int l2), (3, .int l3), (5, .int l5), (6, .int l6), (7, .int l7), (8, .int x15), (9, .int q13.1)]) C 7 [1, 2, 3, 4, 5, 6, 7, 0, 8] 119 dX9_bestMove_116 rfl rfl (by rw [ex15]; rfl) (Nat.le_of_ble_eq_true rfl) rfl ?_
            refine wa_goto C 40 dX9_bestMove_119 rfl ?_
            refine wa_lv (lv' := [(0, .ref (a 0)), (1, .ref (a0 0)), (2, .int l2), (3, .int l3), (5, .int l5), (6, .int l6), (7, .int l7), (8, .int x15)]) [0, 1, 2, 3, 4, 5, 6, 7] rfl ?_
            exact ih l5 l6 x15 q13.2.1 q13.2.2.1 q13.2.2.2.1 q13.2.2.2.2 hf
          · replace hf := ite_f hf c14
            refine wa_bipush (v := 100) C 102 dX9_bestMove_100 rfl rfl ?_
            refine wa_iload C 6 104 dX9_bestMove_102 rfl rfl ?_
            refine wa_imul C 105 dX9_bestMove_104 rfl ?_
            refine wa_iload C 7 107 dX9_bestMove_105 rfl rfl ?_
            refine wa_iadd C 108 dX9_bestMove_107 rfl ?_
            obtain ⟨x16, ex16, hf⟩ := bnd_ex hf
            refine wa_topi ex16 ?_
            refine wa_istore (lv' := [(0, .ref (a 0)), (1, .ref (a0 0)), (2, .int l2), (3, .int l3), (5, .int x16), (6, .int l6), (7, .int l7), (8, .int l8), (9, .int q13.1)]) C [1, 2, 3, 4, 0, 5, 6, 7, 8] 110 dX9_bestMove_108 rfl (Nat.le_of_ble_eq_true rfl) rfl ?_
            refine wa_iload C 8 112 dX9_bestMove_110 rfl rfl ?_
            refine wa_iconst (v := 1) C 113 dX9_bestMove_112 rfl rfl ?_
            refine wa_isub C 114 dX9_bestMove_113 rfl ?_
            obtain ⟨x17, ex17, hf⟩ := bnd_ex hf
            refine wa_topi ex17 ?_
            refine wa_istore (lv' := [(0, .ref (a 0)), (1, .ref (a0 0)), (2, .int l2), (3, .int l3), (5, .int x16), (6, .int x17), (7, .int l7), (8, .int l8), (9, .int q13.1)]) C [1, 2, 3, 4, 5, 0, 6, 7, 8] 116 dX9_bestMove_114 rfl (Nat.le_of_ble_eq_true rfl) rfl ?_
            obtain ⟨x18, ex18, hf⟩ := bnd_ex hf
            refine wa_iinc (v := x18) (lv' := [(0, .ref (a 0)), (1, .ref (a0 0)), (2, .int l2), (3, .int l3), (5, .int x16), (6, .int x17), (7, .int l7), (8, .int x18), (9, .int q13.1)]) C 7 [1, 2, 3, 4, 5, 6, 7, 0, 8] 119 dX9_bestMove_116 rfl rfl (by rw [ex18]; rfl) (Nat.le_of_ble_eq_true rfl) rfl ?_
            refine wa_goto C 40 dX9_bestMove_119 rfl ?_
            refine wa_lv (lv' := [(0, .ref (a 0)), (1, .ref (a0 0)), (2, .int l2), (3, .int l3), (5, .int x16), (6, .int x17), (7, .int l7), (8, .int x18)]) [0, 1, 2, 3, 4, 5, 6, 7] rfl ?_
            exact ih x16 x17 x18 q13.2.1 q13.2.2.1 q13.2.2.2.1 q13.2.2.2.2 hf
set_option maxRecDepth 20000 in
theorem w_X9_bestMove_L28 {p : Program} {l : Launch} {e : Env} {s : State} {m : MethodId} {args : Array Value} {below : List Frame} {meth : Method} {c : Code} {D : va_G} {A : Nat → Prop} {dT : Nat → ClassId} {a : Nat → Nat} {a_d : Nat → Nat} {a_d_p : Nat → Nat} {a_d_k : Nat → Nat} {a_t : Nat → Nat} {a_k : Nat → Nat} {a0 : Nat → Nat} {res : Int32 × Ob × Ob × Ob × Ob} {l2 : Int32} {l3 : Int32} {z0 : Ob} {z5 : Ob} {z6 : Ob} (C : Cx p s m args meth c cX9_bestMove 10 RX9 (some .int) D A dT) : ∀ (n : Nat) (l5 : Int32) (l6 : Int32) (l7 : Int32) (z1 : Ob) (z2 : Ob) (z3 : Ob) (z4 : Ob), f_X9_bestMove_L28 l2 l3 z0 z5 z6 n l5 l6 l7 z1 z2 z3 z4 = some res → WA p l e ({ frames := 7, cells := 0, slots := 0, locals := 154 } : Room) s m args below meth c (MQ below (QI D dT A ([wT dT a (a_d 0) (a_t 0) (a_k 0) z0, wD dT a_d (a_d_p 0) (a_d_k 0) res.2.1, wR dT a_d_p res.2.2.1, wR dT a_d_k res.2.2.2.1, wV dT a_t res.2.2.2.2, wK dT a_k z5, wV dT a0 z6]) res.1) args s 0 0 A) D A 0 0 10 28 ([wT dT a (a_d 0) (a_t 0) (a_k 0) z0, wD dT a_d (a_d_p 0) (a_d_k 0) z1, wR dT a_d_p z2, wR dT a_d_k z3, wV dT a_t z4, wK dT a_k z5, wV dT a0 z6]) [(0, .ref (a 0)), (1, .ref (a0 0)), (2, .int l2), (3, .int l3), (5, .int l5), (6, .int l6), (7, .int l7)] [] := by
  intro n
  induction n with
  | zero => intro l5 l6 l7 z1 z2 z3 z4 hf; cases hf
  | succ n ih =>
    intro l5 l6 l7 z1 z2 z3 z4 hf
    unfold f_X9_bestMove_L28 at hf
    refine wa_iload C 6 30 dX9_bestMove_28 rfl rfl ?_
    refine wa_aload_n C 1 31 dX9_bestMove_30 rfl rfl ?_
    refine wa_get C 34 6 0 0 dX9_bestMove_31 rfl iX10 q49 rfl (Nat.le_of_ble_eq_true rfl) rfl rfl rfl ?_
    refine wa_icmp_ge C 128 37 dX9_bestMove_34 rfl rfl (fun c3 => ?_) (fun c3 => ?_)
    · replace hf := ite_t hf c3
      refine wa_iload C 4 130 dX9_bestMove_128 rfl rfl ?_
      cases hf
      exact wa_iret C dX9_bestMove_130 rfl rfl
    · replace hf := ite_f hf c3
      refine wa_iconst (v := 0) C 38 dX9_bestMove_37 rfl rfl ?_
      refine wa_istore (lv' := [(0, .ref (a 0)), (1, .ref (a0 0)), (2, .int l2), (3, .int l3), (5, .int l5), (6, .int l6), (7, .int l7), (8, .int (0 : Int32))]) C [1, 2, 3, 4, 5, 6, 7, 0] 40 dX9_bestMove_38 rfl (Nat.le_of_ble_eq_true rfl) rfl ?_
      exact w_X9_bestMove_L40 C ih FUEL l5 l6 (0 : Int32) z1 z2 z3 z4 hf
set_option maxRecDepth 20000 in
theorem c_X9_bestMove {l : Launch} {D : va_G} {dT : Nat → ClassId} {a : Nat → Nat} {a_d : Nat → Nat} {a_d_p : Nat → Nat} {a_d_k : Nat → Nat} {a_t : Nat → Nat} {a_k : Nat → Nat} {a0 : Nat → Nat} {v : Ob} {v_d : Ob} {v_d_p : Ob} {v_d_k : Ob} {v_t : Ob} {v_k : Ob} {v0 : Ob} {p1 : Int32} {p2 : Int32} {p3 : Int32} {res : Int32 × Ob × Ob × Ob × Ob} (hf : f_X9_bestMove v v_d v_d_p v_d_k v_t v_k v0 p1 p2 p3 = some res) : CTi l yX9_bestMove cX9_bestMove 10 (some .int) ({ frames := 7, cells := 0, slots := 0, locals := 154 } : Room) D dT [.ref (a 0), .ref (a0 0), .int p1, .int p2, .int p3] ([wT dT a (a_d 0) (a_t 0) (a_k 0) v, wD dT a_d (a_d_p 0) (a_d_k 0) v_d, wR dT a_d_p v_d_p, wR dT a_d_k v_d_k, wV dT a_t v_t, wK dT a_k v_k, wV dT a0 v0]) ([wT dT a (a_d 0) (a_t 0) (a_k 0) v, wD dT a_d (a_d_p 0) (a_d_k 0) res.2.1, wR dT a_d_p res.2.2.1, wR dT a_d_k res.2.2.2.1, wV dT a_t res.2.2.2.2, wK dT a_k v_k, wV dT a0 v0]) res.1 := by
  refine CTi.of (by decide) (Nat.le_of_ble_eq_true rfl) rfl ?_
  intro p e s m args below meth c A C
  unfold f_X9_bestMove at hf
  refine wa_iconst (v := (-1)) C 1 dX9_bestMove_0 rfl rfl ?_
  refine wa_istore (lv' := [(0, .ref (a 0)), (1, .ref (a0 0)), (2, .int p1), (3, .int p2), (4, .int p3), (5, .int (-1 : Int32))]) C [1, 2, 3, 4, 5, 0] 3 dX9_bestMove_1 rfl (Nat.le_of_ble_eq_true rfl) rfl ?_
  refine wa_iload C 4 5 dX9_bestMove_3 rfl rfl ?_
  refine wa_iconst (v := (-1)) C 6 dX9_bestMove_5 rfl rfl ?_
  refine wa_icmp_ne C 14 9 dX9_bestMove_6 rfl rfl (fun c1 => ?_) (fun c1 => ?_)
  · replace hf := ite_f hf c1
    refine wa_bipush (v := 60) C 16 dX9_bestMove_14 rfl rfl ?_
    refine wa_iload C 4 18 dX9_bestMove_16 rfl rfl ?_
    refine wa_iconst (v := 1) C 19 dX9_bestMove_18 rfl rfl ?_
    refine wa_isub C 20 dX9_bestMove_19 rfl ?_
    refine wa_mmin C 23 dX9_bestMove_20 rfl q1236 q503 q18 q504 (Nat.le_of_ble_eq_true rfl) (Nat.le_of_ble_eq_true rfl) ⟨Nat.zero_le _, Nat.zero_le _⟩ ?_
    obtain ⟨x2, ex2, hf⟩ := bnd_ex hf
    refine wa_topi ex2 ?_
    refine wa_istore (lv' := [(0, .ref (a 0)), (1, .ref (a0 0)), (2, .int p1), (3, .int p2), (4, .int p3), (5, .int (-1 : Int32)), (6, .int x2)]) C [1, 2, 3, 4, 5, 6, 0] 25 dX9_bestMove_23 rfl (Nat.le_of_ble_eq_true rfl) rfl ?_
    refine wa_iconst (v := 0) C 26 dX9_bestMove_25 rfl rfl ?_
    refine wa_istore (lv' := [(0, .ref (a 0)), (1, .ref (a0 0)), (2, .int p1), (3, .int p2), (4, .int p3), (5, .int (-1 : Int32)), (6, .int x2), (7, .int (0 : Int32))]) C [1, 2, 3, 4, 5, 6, 7, 0] 28 dX9_bestMove_26 rfl (Nat.le_of_ble_eq_true rfl) rfl ?_
    refine wa_lv (lv' := [(0, .ref (a 0)), (1, .ref (a0 0)), (2, .int p1), (3, .int p2), (5, .int (-1 : Int32)), (6, .int x2), (7, .int (0 : Int32))]) [0, 1, 2, 3, 5, 6, 7] rfl ?_
    exact w_X9_bestMove_L28 C FUEL (-1 : Int32) x2 (0 : Int32) v_d v_d_p v_d_k v_t hf
  · replace hf := ite_t hf c1
    refine wa_bipush (v := 60) C 11 dX9_bestMove_9 rfl rfl ?_
    refine wa_goto C 23 dX9_bestMove_11 rfl ?_
    refine wa_istore (lv' := [(0, .ref (a 0)), (1, .ref (a0 0)), (2, .int p1), (3, .int p2), (4, .int p3), (5, .int (-1 : Int32)), (6, .int (60 : Int32))]) C [1, 2, 3, 4, 5, 6, 0] 25 dX9_bestMove_23 rfl (Nat.le_of_ble_eq_true rfl) rfl ?_
    refine wa_iconst (v := 0) C 26 dX9_bestMove_25 rfl rfl ?_
    refine wa_istore (lv' := [(0, .ref (a 0)), (1, .ref (a0 0)), (2, .int p1), (3, .int p2), (4, .int p3), (5, .int (-1 : Int32)), (6, .int (60 : Int32)), (7, .int (0 : Int32))]) C [1, 2, 3, 4, 5, 6, 7, 0] 28 dX9_bestMove_26 rfl (Nat.le_of_ble_eq_true rfl) rfl ?_
    refine wa_lv (lv' := [(0, .ref (a 0)), (1, .ref (a0 0)), (2, .int p1), (3, .int p2), (5, .int (-1 : Int32)), (6, .int (60 : Int32)), (7, .int (0 : Int32))]) [0, 1, 2, 3, 5, 6, 7] rfl ?_
    exact w_X9_bestMove_L28 C FUEL (-1 : Int32) (60 : Int32) (0 : Int32) v_d v_d_p v_d_k v_t hf
theorem kv_X9_93 : KV RX9 93 yX4_clear cX4_clear 1 none 0 := KV.mk q590 q556 q557 q8 q558 ⟨by decide, by decide, by decide +kernel⟩
theorem kv_X9_96 : KV RX9 96 yX4_liveTogether cX4_liveTogether 3 none 1 := KV.mk q591 q561 q562 q8 q563 ⟨by decide, by decide, by decide +kernel⟩
theorem kv_X9_99 : KV RX9 99 yX4_isAll cX4_isAll 3 (some .boolean) 1 := KV.mk q592 q565 q566 q8 q567 ⟨by decide, by decide, by decide +kernel⟩
def f_X9_untilKnown_L9 (l1 : Int32) (z0 : Ob) : Nat → Int32 → Ob → Ob → Ob → Ob → Ob → Option (Int32 × Ob × Ob × Ob × Ob × Ob)
  | 0, _, _, _, _, _, _ => none
  | n + 1, l2, z1, z2, z3, z4, z5 => (if l1 < l2 then some ((-1 : Int32), z1, z2, z3, z4, z5) else (f_X4_liveTogether z5 z4).bind (fun q3 => (f_X4_isAll q3 (z4.1 0)).bind (fun q4 => (if q4 = 0 then (if l1 ≤ l2 then bnd (l2 + 1) (fun x7 => f_X9_untilKnown_L9 l1 z0 n x7 z1 z2 z3 z4 q3) else (f_X2_pass z1 z2 z3 z4 (0 : Int32)).bind (fun q8 => bnd (l2 + 1) (fun x9 => f_X9_untilKnown_L9 l1 z0 n x9 q8.2.1 q8.2.2.1 q8.2.2.2.1 q8.2.2.2.2 q3))) else some (l2, z1, z2, z3, z4, q3)))))
def f_X9_untilKnown (v : Ob) (v_d : Ob) (v_d_p : Ob) (v_d_k : Ob) (v_t : Ob) (v_k : Ob) (p0 : Int32) : Option (Int32 × Ob × Ob × Ob × Ob × Ob) := (f_X4_clear v_k).bind (fun q1 => f_X9_untilKnown_L9 p0 v FUEL (0 : Int32) v_d v_d_p v_d_k v_t q1)
set_option maxRecDepth 20000 in
theorem w_X9_untilKnown_L9 {p : Program} {l : Launch} {e : Env} {s : State} {m : MethodId} {args : Array Value} {below : List Frame} {meth : Method} {c : Code} {D : va_G} {A : Nat → Prop} {dT : Nat → ClassId} {a : Nat → Nat} {a_d : Nat → Nat} {a_d_p : Nat → Nat} {a_d_k : Nat → Nat} {a_t : Nat → Nat} {a_k : Nat → Nat} {res : Int32 × Ob × Ob × Ob × Ob × Ob} {l1 : Int32} {z0 : Ob} (C : Cx p s m args meth c cX9_untilKnown 3 RX9 (some .int) D A dT) : ∀ (n : Nat) (l2 : Int32) (z1 : Ob) (z2 : Ob) (z3 : Ob) (z4 : Ob) (z5 : Ob), f_X9_untilKnown_L9 l1 z0 n l2 z1 z2 z3 z4 z5 = some res → WA p l e ({ frames := 6, cells := 0, slots := 0, locals := 130 } : Room) s m args below meth c (MQ below (QI D dT A ([wT dT a (a_d 0) (a_t 0) (a_k 0) z0, wD dT a_d (a_d_p 0) (a_d_k 0) res.2.1, wR dT a_d_p res.2.2.1, wR dT a_d_k res.2.2.2.1, wV dT a_t res.2.2.2.2.1, wK dT a_k res.2.2.2.2.2]) res.1) args s 0 0 A) D A 0 0 3 9 ([wT dT a (a_d 0) (a_t 0) (a_k 0) z0, wD dT a_d (a_d_p 0) (a_d_k 0) z1, wR dT a_d_p z2, wR dT a_d_k z3, wV dT a_t z4, wK dT a_k z5]) [(0, .ref (a 0)), (1, .int l1), (2, .int l2)] [] := by
  intro n
  induction n with
  | zero => intro l2 z1 z2 z3 z4 z5 hf; cases hf
  | succ n ih =>
    intro l2 z1 z2 z3 z4 z5 hf
    unfold f_X9_untilKnown_L9 at hf
    refine wa_iload_n C 2 10 dX9_untilKnown_9 rfl rfl ?_
    refine wa_iload_n C 1 11 dX9_untilKnown_10 rfl rfl ?_
    refine wa_icmp_gt C 68 14 dX9_untilKnown_11 rfl rfl (fun c2 => ?_) (fun c2 => ?_)
    · replace hf := ite_t hf c2
      refine wa_iconst (v := (-1)) C 69 dX9_untilKnown_68 rfl rfl ?_
      cases hf
      exact wa_iret C dX9_untilKnown_69 rfl rfl
    · replace hf := ite_f hf c2
      refine wa_aload_n C 0 15 dX9_untilKnown_14 rfl rfl ?_
      refine wa_get C 18 0 0 2 dX9_untilKnown_15 rfl iX9 q329 rfl (Nat.le_of_ble_eq_true rfl) rfl rfl rfl ?_
      refine wa_aload_n C 0 19 dX9_untilKnown_18 rfl rfl ?_
      refine wa_get C 22 0 0 1 dX9_untilKnown_19 rfl iX9 q328 rfl (Nat.le_of_ble_eq_true rfl) rfl rfl rfl ?_
      obtain ⟨q3, hq3, hf⟩ := bind_ex hf
      refine wa_callVv (b1 := 5) (q1 := 0) (ci := 4) (ws' := [wT dT a (a_d 0) (a_t 0) (a_k 0) z0, wD dT a_d (a_d_p 0) (a_d_k 0) z1, wR dT a_d_p z2, wR dT a_d_k z3, wV dT a_t z4, wK dT a_k q3]) (As := [.ref (a_t 0)]) C 25 dX9_untilKnown_22 rfl kv_X9_96 (c_X4_liveTogether hq3) ⟨rfl, rfl⟩ ⟨Nat.le_of_ble_eq_true rfl, Nat.le_of_ble_eq_true rfl⟩ rfl rfl rfl [5, 4] [0, 1, 2, 3] [0, 1, 2, 3, 5, 4] rfl rfl rfl rfl (by decide) rfl rfl rfl rfl ⟨Nat.zero_le _, Nat.zero_le _⟩ (Nat.le_of_ble_eq_true rfl) ?_
      refine wa_aload_n C 0 26 dX9_untilKnown_25 rfl rfl ?_
      refine wa_get C 29 0 0 2 dX9_untilKnown_26 rfl iX9 q329 rfl (Nat.le_of_ble_eq_true rfl) rfl rfl rfl ?_
      refine wa_aload_n C 0 30 dX9_untilKnown_29 rfl rfl ?_
      refine wa_get C 33 0 0 1 dX9_untilKnown_30 rfl iX9 q328 rfl (Nat.le_of_ble_eq_true rfl) rfl rfl rfl ?_
      refine wa_get C 36 4 0 0 dX9_untilKnown_33 rfl iX10 q49 rfl (Nat.le_of_ble_eq_true rfl) rfl rfl rfl ?_
      obtain ⟨q4, hq4, hf⟩ := bind_ex hf
      refine wa_callVi (b1 := 5) (q1 := 0) (ci := 4) (ws' := [wT dT a (a_d 0) (a_t 0) (a_k 0) z0, wD dT a_d (a_d_p 0) (a_d_k 0) z1, wR dT a_d_p z2, wR dT a_d_k z3, wV dT a_t z4, wK dT a_k q3]) (As := [.int (z4.1 0)]) C 39 dX9_untilKnown_36 rfl kv_X9_99 (c_X4_isAll hq4) ⟨rfl, rfl⟩ ⟨Nat.le_of_ble_eq_true rfl, Nat.le_of_ble_eq_true rfl⟩ rfl rfl rfl [5] [0, 1, 2, 3, 4] [0, 1, 2, 3, 4, 5] rfl rfl rfl rfl (by decide) rfl rfl rfl rfl ⟨Nat.zero_le _, Nat.zero_le _⟩ (Nat.le_of_ble_eq_true rfl) ?_
      refine wa_if_eq C 44 42 dX9_untilKnown_39 rfl rfl (fun c5 => ?_) (fun c5 => ?_)
      · replace hf := ite_t hf c5
        refine wa_iload_n C 2 45 dX9_untilKnown_44 rfl rfl ?_
        refine wa_iload_n C 1 46 dX9_untilKnown_45 rfl rfl ?_
        refine wa_icmp_ge C 62 49 dX9_untilKnown_46 rfl rfl (fun c6 => ?_) (fun c6 => ?_)
        · replace hf := ite_t hf c6
          obtain ⟨x7, ex7, hf⟩ := bnd_ex hf
          refine wa_iinc (v := x7) (lv' := [(0, .ref (a 0)), (1, .int l1), (2, .int x7)]) C 2 [1, 2, 0] 65 dX9_untilKnown_62 rfl rfl (by rw [ex7]; rfl) (Nat.le_of_ble_eq_true rfl) rfl ?_
          refine wa_goto C 9 dX9_untilKnown_65 rfl ?_
          exact ih x7 z1 z2 z3 z4 q3 hf
        · replace hf := ite_f hf c6
          refine wa_aload_n C 0 50 dX9_untilKnown_49 rfl rfl ?_
          refine wa_get C 53 0 0 0 dX9_untilKnown_50 rfl iX9 q327 rfl (Nat.le_of_ble_eq_true rfl) rfl rfl rfl ?_
          refine wa_aload_n C 0 54 dX9_untilKnown_53 rfl rfl ?_
          refine wa_get C 57 0 0 1 dX9_untilKnown_54 rfl iX9 q328 rfl (Nat.le_of_ble_eq_true rfl) rfl rfl rfl ?_
          refine wa_iconst (v := 0) C 58 dX9_untilKnown_57 rfl rfl ?_
          obtain ⟨q8, hq8, hf⟩ := bind_ex hf
          refine wa_callVi (b1 := 1) (q1 := 0) (ci := 2) (ws' := [wT dT a (a_d 0) (a_t 0) (a_k 0) z0, wD dT a_d (a_d_p 0) (a_d_k 0) q8.2.1, wR dT a_d_p q8.2.2.1, wR dT a_d_k q8.2.2.2.1, wV dT a_t q8.2.2.2.2, wK dT a_k q3]) (As := [.ref (a_t 0), .int (0 : Int32)]) C 61 dX9_untilKnown_58 rfl kv_X9_80 (c_X2_pass hq8) ⟨rfl, rfl⟩ ⟨Nat.le_of_ble_eq_true rfl, Nat.le_of_ble_eq_true rfl⟩ rfl rfl rfl [1, 2, 3, 4] [0, 5] [0, 2, 3, 4, 5, 1] rfl rfl rfl rfl (by decide) rfl rfl rfl rfl ⟨Nat.zero_le _, Nat.zero_le _⟩ (Nat.le_of_ble_eq_true rfl) ?_
          refine wa_pop C 62 dX9_untilKnown_61 rfl rfl ?_
          obtain ⟨x9, ex9, hf⟩ := bnd_ex hf
          refine wa_iinc (v := x9) (lv' := [(0, .ref (a 0)), (1, .int l1), (2, .int x9)]) C 2 [1, 2, 0] 65 dX9_untilKnown_62 rfl rfl (by rw [ex9]; rfl) (Nat.le_of_ble_eq_true rfl) rfl ?_
          refine wa_goto C 9 dX9_untilKnown_65 rfl ?_
          exact ih x9 q8.2.1 q8.2.2.1 q8.2.2.2.1 q8.2.2.2.2 q3 hf
      · replace hf := ite_f hf c5
        refine wa_iload_n C 2 43 dX9_untilKnown_42 rfl rfl ?_
        cases hf
        exact wa_iret C dX9_untilKnown_43 rfl rfl
set_option maxRecDepth 20000 in
theorem c_X9_untilKnown {l : Launch} {D : va_G} {dT : Nat → ClassId} {a : Nat → Nat} {a_d : Nat → Nat} {a_d_p : Nat → Nat} {a_d_k : Nat → Nat} {a_t : Nat → Nat} {a_k : Nat → Nat} {v : Ob} {v_d : Ob} {v_d_p : Ob} {v_d_k : Ob} {v_t : Ob} {v_k : Ob} {p0 : Int32} {res : Int32 × Ob × Ob × Ob × Ob × Ob} (hf : f_X9_untilKnown v v_d v_d_p v_d_k v_t v_k p0 = some res) : CTi l yX9_untilKnown cX9_untilKnown 3 (some .int) ({ frames := 6, cells := 0, slots := 0, locals := 130 } : Room) D dT [.ref (a 0), .int p0] ([wT dT a (a_d 0) (a_t 0) (a_k 0) v, wD dT a_d (a_d_p 0) (a_d_k 0) v_d, wR dT a_d_p v_d_p, wR dT a_d_k v_d_k, wV dT a_t v_t, wK dT a_k v_k]) ([wT dT a (a_d 0) (a_t 0) (a_k 0) v, wD dT a_d (a_d_p 0) (a_d_k 0) res.2.1, wR dT a_d_p res.2.2.1, wR dT a_d_k res.2.2.2.1, wV dT a_t res.2.2.2.2.1, wK dT a_k res.2.2.2.2.2]) res.1 := by
  refine CTi.of (by decide) (Nat.le_of_ble_eq_true rfl) rfl ?_
  intro p e s m args below meth c A C
  unfold f_X9_untilKnown at hf
  refine wa_aload_n C 0 1 dX9_untilKnown_0 rfl rfl ?_
  refine wa_get C 4 0 0 2 dX9_untilKnown_1 rfl iX9 q329 rfl (Nat.le_of_ble_eq_true rfl) rfl rfl rfl ?_
  obtain ⟨q1, hq1, hf⟩ := bind_ex hf
  refine wa_callVv (b1 := 5) (q1 := 0) (ci := 4) (ws' := [wT dT a (a_d 0) (a_t 0) (a_k 0) v, wD dT a_d (a_d_p 0) (a_d_k 0) v_d, wR dT a_d_p v_d_p, wR dT a_d_k v_d_k, wV dT a_t v_t, wK dT a_k q1]) (As := []) C 7 dX9_untilKnown_4 rfl kv_X9_93 (c_X4_clear hq1) ⟨rfl, rfl⟩ ⟨Nat.le_of_ble_eq_true rfl, Nat.le_of_ble_eq_true rfl⟩ rfl rfl rfl [5] [0, 1, 2, 3, 4] [0, 1, 2, 3, 4, 5] rfl rfl rfl rfl (by decide) rfl rfl rfl rfl ⟨Nat.zero_le _, Nat.zero_le _⟩ (Nat.le_of_ble_eq_true rfl) ?_
  refine wa_iconst (v := 0) C 8 dX9_untilKnown_7 rfl rfl ?_
  refine wa_istore_n (lv' := [(0, .ref (a 0)), (1, .int p0), (2, .int (0 : Int32))]) C [1, 2, 0] 9 dX9_untilKnown_8 rfl (Nat.le_of_ble_eq_true rfl) rfl ?_
  exact w_X9_untilKnown_L9 C FUEL (0 : Int32) v_d v_d_p v_d_k v_t q1 hf
theorem kv_X9_86 : KV RX9 86 yX10_joinTo cX10_joinTo 4 none 2 := KV.mk q581 q582 q583 q3 q584 ⟨by decide, by decide, by decide +kernel⟩
theorem kv_X9_89 : KV RX9 89 yX9_untilKnown cX9_untilKnown 3 (some .int) 1 := KV.mk q586 q588 qs11 q12 q589 ⟨by decide, by decide, by decide +kernel⟩
def f_X9_bestJoin_L32 (k20 : Int32 → Int32 → Int32 → Ob → Ob → Ob → Ob → Ob → Option (Int32 × Ob × Ob × Ob × Ob × Ob)) (l5 : Int32) (z0 : Ob) (z6 : Ob) : Nat → Int32 → Int32 → Int32 → Ob → Ob → Ob → Ob → Ob → Option (Int32 × Ob × Ob × Ob × Ob × Ob)
  | 0, _, _, _, _, _, _, _, _ => none
  | n + 1, l3, l4, l6, z1, z2, z3, z4, z5 => (if (z6.1 1) ≤ l6 then bnd (l5 + 1) (fun x5 => k20 l3 l4 x5 z1 z2 z3 z4 z5) else (if l4 < 0 then bnd (l6 + 1) (fun x7 => f_X9_bestJoin_L32 k20 l5 z0 z6 n l3 l4 x7 z1 z2 z3 z4 z5) else (if l5 = l6 then bnd (l6 + 1) (fun x9 => f_X9_bestJoin_L32 k20 l5 z0 z6 n l3 l4 x9 z1 z2 z3 z4 z5) else (f_X10_copyFrom z4 z6).bind (fun q10 => (f_X10_joinTo q10 l5 l6).bind (fun q11 => (f_X9_untilKnown z0 z1 z2 z3 q11 z5 l4).bind (fun q12 => (if q12.1 = (-1 : Int32) then bnd (l6 + 1) (fun x14 => f_X9_bestJoin_L32 k20 l5 z0 z6 n l3 l4 x14 q12.2.1 q12.2.2.1 q12.2.2.2.1 q12.2.2.2.2.1 q12.2.2.2.2.2) else bnd (((100 : Int32) * l5) + l6) (fun x15 => bnd (q12.1 - (1 : Int32)) (fun x16 => bnd (l6 + 1) (fun x17 => f_X9_bestJoin_L32 k20 l5 z0 z6 n x15 x16 x17 q12.2.1 q12.2.2.1 q12.2.2.2.1 q12.2.2.2.2.1 q12.2.2.2.2.2))))))))))
def f_X9_bestJoin_L20 (z0 : Ob) (z6 : Ob) : Nat → Int32 → Int32 → Int32 → Ob → Ob → Ob → Ob → Ob → Option (Int32 × Ob × Ob × Ob × Ob × Ob)
  | 0, _, _, _, _, _, _, _, _ => none
  | n + 1, l3, l4, l5, z1, z2, z3, z4, z5 => (if (z6.1 1) ≤ l5 then some (l3, z1, z2, z3, z4, z5) else f_X9_bestJoin_L32 (f_X9_bestJoin_L20 z0 z6 n) l5 z0 z6 FUEL l3 l4 (0 : Int32) z1 z2 z3 z4 z5)
def f_X9_bestJoin (v : Ob) (v_d : Ob) (v_d_p : Ob) (v_d_k : Ob) (v_t : Ob) (v_k : Ob) (v0 : Ob) (p1 : Int32) : Option (Int32 × Ob × Ob × Ob × Ob × Ob) := (if p1 = (-1 : Int32) then f_X9_bestJoin_L20 v v0 FUEL (-1 : Int32) (100 : Int32) (0 : Int32) v_d v_d_p v_d_k v_t v_k else bnd (p1 - (1 : Int32)) (fun x2 => f_X9_bestJoin_L20 v v0 FUEL (-1 : Int32) x2 (0 : Int32) v_d v_d_p v_d_k v_t v_k))
set_option maxRecDepth 20000 in
theorem w_X9_bestJoin_L32 {p : Program} {l : Launch} {e : Env} {s : State} {m : MethodId} {args : Array Value} {below : List Frame} {meth : Method} {c : Code} {D : va_G} {A : Nat → Prop} {dT : Nat → ClassId} {a : Nat → Nat} {a_d : Nat → Nat} {a_d_p : Nat → Nat} {a_d_k : Nat → Nat} {a_t : Nat → Nat} {a_k : Nat → Nat} {a0 : Nat → Nat} {res : Int32 × Ob × Ob × Ob × Ob × Ob} {l5 : Int32} {z0 : Ob} {z6 : Ob} (C : Cx p s m args meth c cX9_bestJoin 8 RX9 (some .int) D A dT) {k20 : Int32 → Int32 → Int32 → Ob → Ob → Ob → Ob → Ob → Option (Int32 × Ob × Ob × Ob × Ob × Ob)} (hk20 : ∀ (l3 : Int32) (l4 : Int32) (l5 : Int32) (z1 : Ob) (z2 : Ob) (z3 : Ob) (z4 : Ob) (z5 : Ob), k20 l3 l4 l5 z1 z2 z3 z4 z5 = some res → WA p l e ({ frames := 7, cells := 0, slots := 0, locals := 152 } : Room) s m args below meth c (MQ below (QI D dT A ([wT dT a (a_d 0) (a_t 0) (a_k 0) z0, wD dT a_d (a_d_p 0) (a_d_k 0) res.2.1, wR dT a_d_p res.2.2.1, wR dT a_d_k res.2.2.2.1, wV dT a_t res.2.2.2.2.1, wK dT a_k res.2.2.2.2.2, wV dT a0 z6]) res.1) args s 0 0 A) D A 0 0 8 20 ([wT dT a (a_d 0) (a_t 0) (a_k 0) z0, wD dT a_d (a_d_p 0) (a_d_k 0) z1, wR dT a_d_p z2, wR dT a_d_k z3, wV dT a_t z4, wK dT a_k z5, wV dT a0 z6]) [(0, .ref (a 0)), (1, .ref (a0 0)), (3, .int l3), (4, .int l4), (5, .int l5)] []) : ∀ (n : Nat) (l3 : Int32) (l4 : Int32) (l6 : Int32) (z1 : Ob) (z2 : Ob) (z3 : Ob) (z4 : Ob) (z5 : Ob), f_X9_bestJoin_L32 k20 l5 z0 z6 n l3 l4 l6 z1 z2 z3 z4 z5 = some res → WA p l e ({ frames := 7, cells := 0, slots := 0, locals := 152 } : Room) s m args below meth c (MQ below (QI D dT A ([wT dT a (a_d 0) (a_t 0) (a_k 0) z0, wD dT a_d (a_d_p 0) (a_d_k 0) res.2.1, wR dT a_d_p res.2.2.1, wR dT a_d_k res.2.2.2.1, wV dT a_t res.2.2.2.2.1, wK dT a_k res.2.2.2.2.2, wV dT a0 z6]) res.1) args s 0 0 A) D A 0 0 8 32 ([wT dT a (a_d 0) (a_t 0) (a_k 0) z0, wD dT a_d (a_d_p 0) (a_d_k 0) z1, wR dT a_d_p z2, wR dT a_d_k z3, wV dT a_t z4, wK dT a_k z5, wV dT a0 z6]) [(0, .ref (a 0)), (1, .ref (a0 0)), (3, .int l3), (4, .int l4), (5, .int l5), (6, .int l6)] [] := by
  intro n
  induction n with
  | zero => intro l3 l4 l6 z1 z2 z3 z4 z5 hf; cases hf
  | succ n ih =>
    intro l3 l4 l6 z1 z2 z3 z4 z5 hf
    unfold f_X9_bestJoin_L32 at hf
    refine wa_iload C 5 34 dX9_bestJoin_32 rfl rfl ?_
    refine wa_aload_n C 1 35 dX9_bestJoin_34 rfl rfl ?_
    refine wa_get C 38 6 0 1 dX9_bestJoin_35 rfl iX10 q58 rfl (Nat.le_of_ble_eq_true rfl) rfl rfl rfl ?_
    refine wa_icmp_ge C 107 41 dX9_bestJoin_38 rfl rfl (fun c4 => ?_) (fun c4 => ?_)
    · replace hf := ite_t hf c4
      obtain ⟨x5, ex5, hf⟩ := bnd_ex hf
      refine wa_iinc (v := x5) (lv' := [(0, .ref (a 0)), (1, .ref (a0 0)), (3, .int l3), (4, .int l4), (5, .int x5), (6, .int l6)]) C 4 [1, 2, 3, 4, 0, 5] 110 dX9_bestJoin_107 rfl rfl (by rw [ex5]; rfl) (Nat.le_of_ble_eq_true rfl) rfl ?_
      refine wa_goto C 20 dX9_bestJoin_110 rfl ?_
      refine wa_lv (lv' := [(0, .ref (a 0)), (1, .ref (a0 0)), (3, .int l3), (4, .int l4), (5, .int x5)]) [0, 1, 2, 3, 4] rfl ?_
      exact hk20 l3 l4 x5 z1 z2 z3 z4 z5 hf
    · replace hf := ite_f hf c4
      refine wa_iload C 3 43 dX9_bestJoin_41 rfl rfl ?_
      refine wa_if_lt C 101 46 dX9_bestJoin_43 rfl rfl (fun c6 => ?_) (fun c6 => ?_)
      · replace hf := ite_t hf c6
        obtain ⟨x7, ex7, hf⟩ := bnd_ex hf
        refine wa_iinc (v := x7) (lv' := [(0, .ref (a 0)), (1, .ref (a0 0)), (3, .int l3), (4, .int l4), (5, .int l5), (6, .int x7)]) C 5 [1, 2, 3, 4, 5, 0] 104 dX9_bestJoin_101 rfl rfl (by rw [ex7]; rfl) (Nat.le_of_ble_eq_true rfl) rfl ?_
        refine wa_goto C 32 dX9_bestJoin_104 rfl ?_
        exact ih l3 l4 x7 z1 z2 z3 z4 z5 hf
      · replace hf := ite_f hf c6
        refine wa_iload C 4 48 dX9_bestJoin_46 rfl rfl ?_
        refine wa_iload C 5 50 dX9_bestJoin_48 rfl rfl ?_
        refine wa_icmp_eq C 101 53 dX9_bestJoin_50 rfl rfl (fun c8 => ?_) (fun c8 => ?_)
        · replace hf := ite_t hf c8
          obtain ⟨x9, ex9, hf⟩ := bnd_ex hf
          refine wa_iinc (v := x9) (lv' := [(0, .ref (a 0)), (1, .ref (a0 0)), (3, .int l3), (4, .int l4), (5, .int l5), (6, .int x9)]) C 5 [1, 2, 3, 4, 5, 0] 104 dX9_bestJoin_101 rfl rfl (by rw [ex9]; rfl) (Nat.le_of_ble_eq_true rfl) rfl ?_
          refine wa_goto C 32 dX9_bestJoin_104 rfl ?_
          exact ih l3 l4 x9 z1 z2 z3 z4 z5 hf
        · replace hf := ite_f hf c8
          refine wa_aload_n C 0 54 dX9_bestJoin_53 rfl rfl ?_
          refine wa_get C 57 0 0 1 dX9_bestJoin_54 rfl iX9 q328 rfl (Nat.le_of_ble_eq_true rfl) rfl rfl rfl ?_
          refine wa_aload_n C 1 58 dX9_bestJoin_57 rfl rfl ?_
          obtain ⟨q10, hq10, hf⟩ := bind_ex hf
          refine wa_callVv (b1 := 4) (q1 := 0) (ci := 10) (ws' := [wT dT a (a_d 0) (a_t 0) (a_k 0) z0, wD dT a_d (a_d_p 0) (a_d_k 0) z1, wR dT a_d_p z2, wR dT a_d_k z3, wV dT a_t q10, wK dT a_k z5, wV dT a0 z6]) (As := [.ref (a0 0)]) C 61 dX9_bestJoin_58 rfl kv_X9_64 (c_X10_copyFrom hq10) ⟨rfl, rfl⟩ ⟨Nat.le_of_ble_eq_true rfl, Nat.le_of_ble_eq_true rfl⟩ rfl rfl rfl [4, 6] [0, 1, 2, 3, 5] [0, 1, 2, 3, 5, 4, 6] rfl rfl rfl rfl (by decide) rfl rfl rfl rfl ⟨Nat.zero_le _, Nat.zero_le _⟩ (Nat.le_of_ble_eq_true rfl) ?_
          refine wa_aload_n C 0 62 dX9_bestJoin_61 rfl rfl ?_
          refine wa_get C 65 0 0 1 dX9_bestJoin_62 rfl iX9 q328 rfl (Nat.le_of_ble_eq_true rfl) rfl rfl rfl ?_
          refine wa_iload C 4 67 dX9_bestJoin_65 rfl rfl ?_
          refine wa_iload C 5 69 dX9_bestJoin_67 rfl rfl ?_
          obtain ⟨q11, hq11, hf⟩ := bind_ex hf
          refine wa_callVv (b1 := 4) (q1 := 0) (ci := 10) (ws' := [wT dT a (a_d 0) (a_t 0) (a_k 0) z0, wD dT a_d (a_d_p 0) (a_d_k 0) z1, wR dT a_d_p z2, wR dT a_d_k z3, wV dT a_t q11, wK dT a_k z5, wV dT a0 z6]) (As := [.int l5, .int l6]) C 72 dX9_bestJoin_69 rfl kv_X9_86 (c_X10_joinTo hq11) ⟨rfl, rfl⟩ ⟨Nat.le_of_ble_eq_true rfl, Nat.le_of_ble_eq_true rfl⟩ rfl rfl rfl [4] [0, 1, 2, 3, 5, 6] [0, 1, 2, 3, 6, 4, 5] rfl rfl rfl rfl (by decide) rfl rfl rfl rfl ⟨Nat.zero_le _, Nat.zero_le _⟩ (Nat.le_of_ble_eq_true rfl) ?_
          refine wa_aload_n C 0 73 dX9_bestJoin_72 rfl rfl ?_
          refine wa_iload C 3 75 dX9_bestJoin_73 rfl rfl ?_
          obtain ⟨q12, hq12, hf⟩ := bind_ex hf
          refine wa_callVi (b1 := 0) (q1 := 0) (ci := 9) (ws' := [wT dT a (a_d 0) (a_t 0) (a_k 0) z0, wD dT a_d (a_d_p 0) (a_d_k 0) q12.2.1, wR dT a_d_p q12.2.2.1, wR dT a_d_k q12.2.2.2.1, wV dT a_t q12.2.2.2.2.1, wK dT a_k q12.2.2.2.2.2, wV dT a0 z6]) (As := [.int l4]) C 78 dX9_bestJoin_75 rfl kv_X9_89 (c_X9_untilKnown hq12) ⟨rfl, rfl⟩ ⟨Nat.le_of_ble_eq_true rfl, Nat.le_of_ble_eq_true rfl⟩ rfl rfl rfl [0, 1, 2, 3, 4, 5] [6] [1, 2, 3, 4, 5, 6, 0] rfl rfl rfl rfl (by decide) rfl rfl rfl rfl ⟨Nat.zero_le _, Nat.zero_le _⟩ (Nat.le_of_ble_eq_true rfl) ?_
          refine wa_istore (lv' := [(0, .ref (a 0)), (1, .ref (a0 0)), (3, .int l3), (4, .int l4), (5, .int l5), (6, .int l6), (7, .int q12.1)]) C [1, 2, 3, 4, 5, 6, 0] 80 dX9_bestJoin_78 rfl (Nat.le_of_ble_eq_true rfl) rfl ?_
          refine wa_iload C 6 82 dX9_bestJoin_80 rfl rfl ?_
          refine wa_iconst (v := (-1)) C 83 dX9_bestJoin_82 rfl rfl ?_
          refine wa_icmp_eq C 101 86 dX9_bestJoin_83 rfl rfl (fun c13 => ?_) (fun c13 => ?_)
          · replace hf := ite_t hf c13
            obtain ⟨x14, ex14, hf⟩ := bnd_ex hf
            refine wa_iinc (v := x14) (lv' := [(0, .ref (a 0)), (1, .ref (a0 0)), (3, .int l3), (4, .int l4), (5, .int l5), (6, .int x14), (7, .int q12.1)]) C 5 [1, 2, 3, 4, 5, 0, 6] 104 dX9_bestJoin_101 rfl rfl (by rw [ex14]; rfl) (Nat.le_of_ble_eq_true rfl) rfl ?_
            refine wa_goto C 32 dX9_bestJoin_104 rfl ?_
            refine wa_lv (lv' := [(0, .ref (a 0)), (1, .ref (a0 0)), (3, .int l3), (4, .int l4), (5, .int l5), (6, .int x14)]) [0, 1, 2, 3, 4, 5] rfl ?_
            exact ih l3 l4 x14 q12.2.1 q12.2.2.1 q12.2.2.2.1 q12.2.2.2.2.1 q12.2.2.2.2.2 hf
          · replace hf := ite_f hf c13
            refine wa_bipush (v := 100) C 88 dX9_bestJoin_86 rfl rfl ?_
            refine wa_iload C 4 90 dX9_bestJoin_88 rfl rfl ?_
            refine wa_imul C 91 dX9_bestJoin_90 rfl ?_
            refine wa_iload C 5 93 dX9_bestJoin_91 rfl rfl ?_
            refine wa_iadd C 94 dX9_bestJoin_93 rfl ?_
            obtain ⟨x15, ex15, hf⟩ := bnd_ex hf
            refine wa_topi ex15 ?_
            refine wa_istore_n (lv' := [(0, .ref (a 0)), (1, .ref (a0 0)), (3, .int x15), (4, .int l4), (5, .int l5), (6, .int l6), (7, .int q12.1)]) C [1, 2, 0, 3, 4, 5, 6] 95 dX9_bestJoin_94 rfl (Nat.le_of_ble_eq_true rfl) rfl ?_
            refine wa_iload C 6 97 dX9_bestJoin_95 rfl rfl ?_
            refine wa_iconst (v := 1) C 98 dX9_bestJoin_97 rfl rfl ?_
            refine wa_isub C 99 dX9_bestJoin_98 rfl ?_
            obtain ⟨x16, ex16, hf⟩ := bnd_ex hf
            refine wa_topi ex16 ?_
            refine wa_istore (lv' := [(0, .ref (a 0)), (1, .ref (a0 0)), (3, .int x15), (4, .int x16), (5, .int l5), (6, .int l6), (7, .int q12.1)]) C [1, 2, 3, 0, 4, 5, 6] 101 dX9_bestJoin_99 rfl (Nat.le_of_ble_eq_true rfl) rfl ?_
            obtain ⟨x17, ex17, hf⟩ := bnd_ex hf
            refine wa_iinc (v := x17) (lv' := [(0, .ref (a 0)), (1, .ref (a0 0)), (3, .int x15), (4, .int x16), (5, .int l5), (6, .int x17), (7, .int q12.1)]) C 5 [1, 2, 3, 4, 5, 0, 6] 104 dX9_bestJoin_101 rfl rfl (by rw [ex17]; rfl) (Nat.le_of_ble_eq_true rfl) rfl ?_
            refine wa_goto C 32 dX9_bestJoin_104 rfl ?_
            refine wa_lv (lv' := [(0, .ref (a 0)), (1, .ref (a0 0)), (3, .int x15), (4, .int x16), (5, .int l5), (6, .int x17)]) [0, 1, 2, 3, 4, 5] rfl ?_
            exact ih x15 x16 x17 q12.2.1 q12.2.2.1 q12.2.2.2.1 q12.2.2.2.2.1 q12.2.2.2.2.2 hf
set_option maxRecDepth 20000 in
theorem w_X9_bestJoin_L20 {p : Program} {l : Launch} {e : Env} {s : State} {m : MethodId} {args : Array Value} {below : List Frame} {meth : Method} {c : Code} {D : va_G} {A : Nat → Prop} {dT : Nat → ClassId} {a : Nat → Nat} {a_d : Nat → Nat} {a_d_p : Nat → Nat} {a_d_k : Nat → Nat} {a_t : Nat → Nat} {a_k : Nat → Nat} {a0 : Nat → Nat} {res : Int32 × Ob × Ob × Ob × Ob × Ob} {z0 : Ob} {z6 : Ob} (C : Cx p s m args meth c cX9_bestJoin 8 RX9 (some .int) D A dT) : ∀ (n : Nat) (l3 : Int32) (l4 : Int32) (l5 : Int32) (z1 : Ob) (z2 : Ob) (z3 : Ob) (z4 : Ob) (z5 : Ob), f_X9_bestJoin_L20 z0 z6 n l3 l4 l5 z1 z2 z3 z4 z5 = some res → WA p l e ({ frames := 7, cells := 0, slots := 0, locals := 152 } : Room) s m args below meth c (MQ below (QI D dT A ([wT dT a (a_d 0) (a_t 0) (a_k 0) z0, wD dT a_d (a_d_p 0) (a_d_k 0) res.2.1, wR dT a_d_p res.2.2.1, wR dT a_d_k res.2.2.2.1, wV dT a_t res.2.2.2.2.1, wK dT a_k res.2.2.2.2.2, wV dT a0 z6]) res.1) args s 0 0 A) D A 0 0 8 20 ([wT dT a (a_d 0) (a_t 0) (a_k 0) z0, wD dT a_d (a_d_p 0) (a_d_k 0) z1, wR dT a_d_p z2, wR dT a_d_k z3, wV dT a_t z4, wK dT a_k z5, wV dT a0 z6]) [(0, .ref (a 0)), (1, .ref (a0 0)), (3, .int l3), (4, .int l4), (5, .int l5)] [] := by
  intro n
  induction n with
  | zero => intro l3 l4 l5 z1 z2 z3 z4 z5 hf; cases hf
  | succ n ih =>
    intro l3 l4 l5 z1 z2 z3 z4 z5 hf
    unfold f_X9_bestJoin_L20 at hf
    refine wa_iload C 4 22 dX9_bestJoin_20 rfl rfl ?_
    refine wa_aload_n C 1 23 dX9_bestJoin_22 rfl rfl ?_
    refine wa_get C 26 6 0 1 dX9_bestJoin_23 rfl iX10 q58 rfl (Nat.le_of_ble_eq_true rfl) rfl rfl rfl ?_
    refine wa_icmp_ge C 113 29 dX9_bestJoin_26 rfl rfl (fun c3 => ?_) (fun c3 => ?_)
    · replace hf := ite_t hf c3
      refine wa_iload_n C 2 114 dX9_bestJoin_113 rfl rfl ?_
      cases hf
      exact wa_iret C dX9_bestJoin_114 rfl rfl
    · replace hf := ite_f hf c3
      refine wa_iconst (v := 0) C 30 dX9_bestJoin_29 rfl rfl ?_
      refine wa_istore (lv' := [(0, .ref (a 0)), (1, .ref (a0 0)), (3, .int l3), (4, .int l4), (5, .int l5), (6, .int (0 : Int32))]) C [1, 2, 3, 4, 5, 0] 32 dX9_bestJoin_30 rfl (Nat.le_of_ble_eq_true rfl) rfl ?_
      exact w_X9_bestJoin_L32 C ih FUEL l3 l4 (0 : Int32) z1 z2 z3 z4 z5 hf
set_option maxRecDepth 20000 in
theorem c_X9_bestJoin {l : Launch} {D : va_G} {dT : Nat → ClassId} {a : Nat → Nat} {a_d : Nat → Nat} {a_d_p : Nat → Nat} {a_d_k : Nat → Nat} {a_t : Nat → Nat} {a_k : Nat → Nat} {a0 : Nat → Nat} {v : Ob} {v_d : Ob} {v_d_p : Ob} {v_d_k : Ob} {v_t : Ob} {v_k : Ob} {v0 : Ob} {p1 : Int32} {res : Int32 × Ob × Ob × Ob × Ob × Ob} (hf : f_X9_bestJoin v v_d v_d_p v_d_k v_t v_k v0 p1 = some res) : CTi l yX9_bestJoin cX9_bestJoin 8 (some .int) ({ frames := 7, cells := 0, slots := 0, locals := 152 } : Room) D dT [.ref (a 0), .ref (a0 0), .int p1] ([wT dT a (a_d 0) (a_t 0) (a_k 0) v, wD dT a_d (a_d_p 0) (a_d_k 0) v_d, wR dT a_d_p v_d_p, wR dT a_d_k v_d_k, wV dT a_t v_t, wK dT a_k v_k, wV dT a0 v0]) ([wT dT a (a_d 0) (a_t 0) (a_k 0) v, wD dT a_d (a_d_p 0) (a_d_k 0) res.2.1, wR dT a_d_p res.2.2.1, wR dT a_d_k res.2.2.2.1, wV dT a_t res.2.2.2.2.1, wK dT a_k res.2.2.2.2.2, wV dT a0 v0]) res.1 := by
  refine CTi.of (by decide) (Nat.le_of_ble_eq_true rfl) rfl ?_
  intro p e s m args below meth c A C
  unfold f_X9_bestJoin at hf
  refine wa_iconst (v := (-1)) C 1 dX9_bestJoin_0 rfl rfl ?_
  refine wa_istore_n (lv' := [(0, .ref (a 0)), (1, .ref (a0 0)), (2, .int p1), (3, .int (-1 : Int32))]) C [1, 2, 3, 0] 2 dX9_bestJoin_1 rfl (Nat.le_of_ble_eq_true rfl) rfl ?_
  refine wa_iload_n C 2 3 dX9_bestJoin_2 rfl rfl ?_
  refine wa_iconst (v := (-1)) C 4 dX9_bestJoin_3 rfl rfl ?_
  refine wa_icmp_ne C 12 7 dX9_bestJoin_4 rfl rfl (fun c1 => ?_) (fun c1 => ?_)
  · replace hf := ite_f hf c1
    refine wa_iload_n C 2 13 dX9_bestJoin_12 rfl rfl ?_
    refine wa_iconst (v := 1) C 14 dX9_bestJoin_13 rfl rfl ?_
    refine wa_isub C 15 dX9_bestJoin_14 rfl ?_
    obtain ⟨x2, ex2, hf⟩ := bnd_ex hf
    refine wa_topi ex2 ?_
    refine wa_istore (lv' := [(0, .ref (a 0)), (1, .ref (a0 0)), (2, .int p1), (3, .int (-1 : Int32)), (4, .int x2)]) C [1, 2, 3, 4, 0] 17 dX9_bestJoin_15 rfl (Nat.le_of_ble_eq_true rfl) rfl ?_
    refine wa_iconst (v := 0) C 18 dX9_bestJoin_17 rfl rfl ?_
    refine wa_istore (lv' := [(0, .ref (a 0)), (1, .ref (a0 0)), (2, .int p1), (3, .int (-1 : Int32)), (4, .int x2), (5, .int (0 : Int32))]) C [1, 2, 3, 4, 5, 0] 20 dX9_bestJoin_18 rfl (Nat.le_of_ble_eq_true rfl) rfl ?_
    refine wa_lv (lv' := [(0, .ref (a 0)), (1, .ref (a0 0)), (3, .int (-1 : Int32)), (4, .int x2), (5, .int (0 : Int32))]) [0, 1, 3, 4, 5] rfl ?_
    exact w_X9_bestJoin_L20 C FUEL (-1 : Int32) x2 (0 : Int32) v_d v_d_p v_d_k v_t v_k hf
  · replace hf := ite_t hf c1
    refine wa_bipush (v := 100) C 9 dX9_bestJoin_7 rfl rfl ?_
    refine wa_goto C 15 dX9_bestJoin_9 rfl ?_
    refine wa_istore (lv' := [(0, .ref (a 0)), (1, .ref (a0 0)), (2, .int p1), (3, .int (-1 : Int32)), (4, .int (100 : Int32))]) C [1, 2, 3, 4, 0] 17 dX9_bestJoin_15 rfl (Nat.le_of_ble_eq_true rfl) rfl ?_
    refine wa_iconst (v := 0) C 18 dX9_bestJoin_17 rfl rfl ?_
    refine wa_istore (lv' := [(0, .ref (a 0)), (1, .ref (a0 0)), (2, .int p1), (3, .int (-1 : Int32)), (4, .int (100 : Int32)), (5, .int (0 : Int32))]) C [1, 2, 3, 4, 5, 0] 20 dX9_bestJoin_18 rfl (Nat.le_of_ble_eq_true rfl) rfl ?_
    refine wa_lv (lv' := [(0, .ref (a 0)), (1, .ref (a0 0)), (3, .int (-1 : Int32)), (4, .int (100 : Int32)), (5, .int (0 : Int32))]) [0, 1, 3, 4, 5] rfl ?_
    exact w_X9_bestJoin_L20 C FUEL (-1 : Int32) (100 : Int32) (0 : Int32) v_d v_d_p v_d_k v_t v_k hf
theorem kv_X9_107 : KV RX9 107 yX8_last cX8_last 3 (some .int) 0 := KV.mk q1315 q1316 q1317 q10 q1318 ⟨by decide, by decide, by decide +kernel⟩
theorem kv_X9_113 : KV RX9 113 yX8_fits cX8_fits 4 (some .boolean) 2 := KV.mk q1320 q1321 q1322 q10 q1323 ⟨by decide, by decide, by decide +kernel⟩
def f_X9_passesAsSeen_L7 (l2 : Int32) (z0 : Ob) (z5 : Ob) (z6 : Ob) : Nat → Int32 → Ob → Ob → Ob → Ob → Option (Int32 × Ob × Ob × Ob × Ob)
  | 0, _, _, _, _, _ => none
  | n + 1, l3, z1, z2, z3, z4 => (if l2 < l3 then some ((1 : Int32), z1, z2, z3, z4) else (f_X8_fits z6 z4 l3).bind (fun q3 => (if q3 = 0 then some ((0 : Int32), z1, z2, z3, z4) else (if l2 ≤ l3 then bnd (l3 + 1) (fun x6 => f_X9_passesAsSeen_L7 l2 z0 z5 z6 n x6 z1 z2 z3 z4) else (f_X2_pass z1 z2 z3 z4 (0 : Int32)).bind (fun q7 => bnd (l3 + 1) (fun x8 => f_X9_passesAsSeen_L7 l2 z0 z5 z6 n x8 q7.2.1 q7.2.2.1 q7.2.2.2.1 q7.2.2.2.2))))))
def f_X9_passesAsSeen (v : Ob) (v_d : Ob) (v_d_p : Ob) (v_d_k : Ob) (v_t : Ob) (v_k : Ob) (v0 : Ob) : Option (Int32 × Ob × Ob × Ob × Ob) := (f_X8_last v0).bind (fun q1 => f_X9_passesAsSeen_L7 q1 v v_k v0 FUEL (0 : Int32) v_d v_d_p v_d_k v_t)
set_option maxRecDepth 20000 in
theorem w_X9_passesAsSeen_L7 {p : Program} {l : Launch} {e : Env} {s : State} {m : MethodId} {args : Array Value} {below : List Frame} {meth : Method} {c : Code} {D : va_G} {A : Nat → Prop} {dT : Nat → ClassId} {a : Nat → Nat} {a_d : Nat → Nat} {a_d_p : Nat → Nat} {a_d_k : Nat → Nat} {a_t : Nat → Nat} {a_k : Nat → Nat} {a0 : Nat → Nat} {res : Int32 × Ob × Ob × Ob × Ob} {l2 : Int32} {z0 : Ob} {z5 : Ob} {z6 : Ob} (C : Cx p s m args meth c cX9_passesAsSeen 4 RX9 (some .boolean) D A dT) : ∀ (n : Nat) (l3 : Int32) (z1 : Ob) (z2 : Ob) (z3 : Ob) (z4 : Ob), f_X9_passesAsSeen_L7 l2 z0 z5 z6 n l3 z1 z2 z3 z4 = some res → WA p l e ({ frames := 6, cells := 0, slots := 0, locals := 130 } : Room) s m args below meth c (MQ below (QI D dT A ([wT dT a (a_d 0) (a_t 0) (a_k 0) z0, wD dT a_d (a_d_p 0) (a_d_k 0) res.2.1, wR dT a_d_p res.2.2.1, wR dT a_d_k res.2.2.2.1, wV dT a_t res.2.2.2.2, wK dT a_k z5, wS dT a0 z6]) res.1) args s 0 0 A) D A 0 0 4 7 ([wT dT a (a_d 0) (a_t 0) (a_k 0) z0, wD dT a_d (a_d_p 0) (a_d_k 0) z1, wR dT a_d_p z2, wR dT a_d_k z3, wV dT a_t z4, wK dT a_k z5, wS dT a0 z6]) [(0, .ref (a 0)), (1, .ref (a0 0)), (2, .int l2), (3, .int l3)] [] := by
  intro n
  induction n with
  | zero => intro l3 z1 z2 z3 z4 hf; cases hf
  | succ n ih =>
    intro l3 z1 z2 z3 z4 hf
    unfold f_X9_passesAsSeen_L7 at hf
    refine wa_iload_n C 3 8 dX9_passesAsSeen_7 rfl rfl ?_
    refine wa_iload_n C 2 9 dX9_passesAsSeen_8 rfl rfl ?_
    refine wa_icmp_gt C 50 12 dX9_passesAsSeen_9 rfl rfl (fun c2 => ?_) (fun c2 => ?_)
    · replace hf := ite_t hf c2
      refine wa_iconst (v := 1) C 51 dX9_passesAsSeen_50 rfl rfl ?_
      cases hf
      exact wa_zret C dX9_passesAsSeen_51 rfl rfl rfl
    · replace hf := ite_f hf c2
      refine wa_aload_n C 1 13 dX9_passesAsSeen_12 rfl rfl ?_
      refine wa_aload_n C 0 14 dX9_passesAsSeen_13 rfl rfl ?_
      refine wa_get C 17 0 0 1 dX9_passesAsSeen_14 rfl iX9 q328 rfl (Nat.le_of_ble_eq_true rfl) rfl rfl rfl ?_
      refine wa_iload_n C 3 18 dX9_passesAsSeen_17 rfl rfl ?_
      obtain ⟨q3, hq3, hf⟩ := bind_ex hf
      refine wa_callVi (b1 := 6) (q1 := 0) (ci := 8) (ws' := [wT dT a (a_d 0) (a_t 0) (a_k 0) z0, wD dT a_d (a_d_p 0) (a_d_k 0) z1, wR dT a_d_p z2, wR dT a_d_k z3, wV dT a_t z4, wK dT a_k z5, wS dT a0 z6]) (As := [.ref (a_t 0), .int l3]) C 21 dX9_passesAsSeen_18 rfl kv_X9_113 (c_X8_fits hq3) ⟨rfl, rfl⟩ ⟨Nat.le_of_ble_eq_true rfl, Nat.le_of_ble_eq_true rfl⟩ rfl rfl rfl [6, 4] [0, 1, 2, 3, 5] [0, 1, 2, 3, 6, 4, 5] rfl rfl rfl rfl (by decide) rfl rfl rfl rfl ⟨Nat.zero_le _, Nat.zero_le _⟩ (Nat.le_of_ble_eq_true rfl) ?_
      refine wa_if_ne C 26 24 dX9_passesAsSeen_21 rfl rfl (fun c4 => ?_) (fun c4 => ?_)
      · replace hf := ite_f hf c4
        refine wa_iload_n C 3 27 dX9_passesAsSeen_26 rfl rfl ?_
        refine wa_iload_n C 2 28 dX9_passesAsSeen_27 rfl rfl ?_
        refine wa_icmp_ge C 44 31 dX9_passesAsSeen_28 rfl rfl (fun c5 => ?_) (fun c5 => ?_)
        · replace hf := ite_t hf c5
          obtain ⟨x6, ex6, hf⟩ := bnd_ex hf
          refine wa_iinc (v := x6) (lv' := [(0, .ref (a 0)), (1, .ref (a0 0)), (2, .int l2), (3, .int x6)]) C 3 [1, 2, 3, 0] 47 dX9_passesAsSeen_44 rfl rfl (by rw [ex6]; rfl) (Nat.le_of_ble_eq_true rfl) rfl ?_
          refine wa_goto C 7 dX9_passesAsSeen_47 rfl ?_
          exact ih x6 z1 z2 z3 z4 hf
        · replace hf := ite_f hf c5
          refine wa_aload_n C 0 32 dX9_passesAsSeen_31 rfl rfl ?_
          refine wa_get C 35 0 0 0 dX9_passesAsSeen_32 rfl iX9 q327 rfl (Nat.le_of_ble_eq_true rfl) rfl rfl rfl ?_
          refine wa_aload_n C 0 36 dX9_passesAsSeen_35 rfl rfl ?_
          refine wa_get C 39 0 0 1 dX9_passesAsSeen_36 rfl iX9 q328 rfl (Nat.le_of_ble_eq_true rfl) rfl rfl rfl ?_
          refine wa_iconst (v := 0) C 40 dX9_passesAsSeen_39 rfl rfl ?_
          obtain ⟨q7, hq7, hf⟩ := bind_ex hf
          refine wa_callVi (b1 := 1) (q1 := 0) (ci := 2) (ws' := [wT dT a (a_d 0) (a_t 0) (a_k 0) z0, wD dT a_d (a_d_p 0) (a_d_k 0) q7.2.1, wR dT a_d_p q7.2.2.1, wR dT a_d_k q7.2.2.2.1, wV dT a_t q7.2.2.2.2, wK dT a_k z5, wS dT a0 z6]) (As := [.ref (a_t 0), .int (0 : Int32)]) C 43 dX9_passesAsSeen_40 rfl kv_X9_80 (c_X2_pass hq7) ⟨rfl, rfl⟩ ⟨Nat.le_of_ble_eq_true rfl, Nat.le_of_ble_eq_true rfl⟩ rfl rfl rfl [1, 2, 3, 4] [0, 5, 6] [0, 3, 4, 5, 6, 1, 2] rfl rfl rfl rfl (by decide) rfl rfl rfl rfl ⟨Nat.zero_le _, Nat.zero_le _⟩ (Nat.le_of_ble_eq_true rfl) ?_
          refine wa_pop C 44 dX9_passesAsSeen_43 rfl rfl ?_
          obtain ⟨x8, ex8, hf⟩ := bnd_ex hf
          refine wa_iinc (v := x8) (lv' := [(0, .ref (a 0)), (1, .ref (a0 0)), (2, .int l2), (3, .int x8)]) C 3 [1, 2, 3, 0] 47 dX9_passesAsSeen_44 rfl rfl (by rw [ex8]; rfl) (Nat.le_of_ble_eq_true rfl) rfl ?_
          refine wa_goto C 7 dX9_passesAsSeen_47 rfl ?_
          exact ih x8 q7.2.1 q7.2.2.1 q7.2.2.2.1 q7.2.2.2.2 hf
      · replace hf := ite_t hf c4
        refine wa_iconst (v := 0) C 25 dX9_passesAsSeen_24 rfl rfl ?_
        cases hf
        exact wa_zret C dX9_passesAsSeen_25 rfl rfl rfl
set_option maxRecDepth 20000 in
theorem c_X9_passesAsSeen {l : Launch} {D : va_G} {dT : Nat → ClassId} {a : Nat → Nat} {a_d : Nat → Nat} {a_d_p : Nat → Nat} {a_d_k : Nat → Nat} {a_t : Nat → Nat} {a_k : Nat → Nat} {a0 : Nat → Nat} {v : Ob} {v_d : Ob} {v_d_p : Ob} {v_d_k : Ob} {v_t : Ob} {v_k : Ob} {v0 : Ob} {res : Int32 × Ob × Ob × Ob × Ob} (hf : f_X9_passesAsSeen v v_d v_d_p v_d_k v_t v_k v0 = some res) : CTi l yX9_passesAsSeen cX9_passesAsSeen 4 (some .boolean) ({ frames := 6, cells := 0, slots := 0, locals := 130 } : Room) D dT [.ref (a 0), .ref (a0 0)] ([wT dT a (a_d 0) (a_t 0) (a_k 0) v, wD dT a_d (a_d_p 0) (a_d_k 0) v_d, wR dT a_d_p v_d_p, wR dT a_d_k v_d_k, wV dT a_t v_t, wK dT a_k v_k, wS dT a0 v0]) ([wT dT a (a_d 0) (a_t 0) (a_k 0) v, wD dT a_d (a_d_p 0) (a_d_k 0) res.2.1, wR dT a_d_p res.2.2.1, wR dT a_d_k res.2.2.2.1, wV dT a_t res.2.2.2.2, wK dT a_k v_k, wS dT a0 v0]) res.1 := by
  refine CTi.of (by decide) (Nat.le_of_ble_eq_true rfl) rfl ?_
  intro p e s m args below meth c A C
  unfold f_X9_passesAsSeen at hf
  refine wa_aload_n C 1 1 dX9_passesAsSeen_0 rfl rfl ?_
  obtain ⟨q1, hq1, hf⟩ := bind_ex hf
  refine wa_callVi (b1 := 6) (q1 := 0) (ci := 8) (ws' := [wT dT a (a_d 0) (a_t 0) (a_k 0) v, wD dT a_d (a_d_p 0) (a_d_k 0) v_d, wR dT a_d_p v_d_p, wR dT a_d_k v_d_k, wV dT a_t v_t, wK dT a_k v_k, wS dT a0 v0]) (As := []) C 4 dX9_passesAsSeen_1 rfl kv_X9_107 (c_X8_last hq1) ⟨rfl, rfl⟩ ⟨Nat.le_of_ble_eq_true rfl, Nat.le_of_ble_eq_true rfl⟩ rfl rfl rfl [6] [0, 1, 2, 3, 4, 5] [0, 1, 2, 3, 4, 5, 6] rfl rfl rfl rfl (by decide) rfl rfl rfl rfl ⟨Nat.zero_le _, Nat.zero_le _⟩ (Nat.le_of_ble_eq_true rfl) ?_
  refine wa_istore_n (lv' := [(0, .ref (a 0)), (1, .ref (a0 0)), (2, .int q1)]) C [1, 2, 0] 5 dX9_passesAsSeen_4 rfl (Nat.le_of_ble_eq_true rfl) rfl ?_
  refine wa_iconst (v := 0) C 6 dX9_passesAsSeen_5 rfl rfl ?_
  refine wa_istore_n (lv' := [(0, .ref (a 0)), (1, .ref (a0 0)), (2, .int q1), (3, .int (0 : Int32))]) C [1, 2, 3, 0] 7 dX9_passesAsSeen_6 rfl (Nat.le_of_ble_eq_true rfl) rfl ?_
  exact w_X9_passesAsSeen_L7 C FUEL (0 : Int32) v_d v_d_p v_d_k v_t hf
theorem kv_X9_103 : KV RX9 103 yX9_passesAsSeen cX9_passesAsSeen 4 (some .boolean) 1 := KV.mk q1311 q1313 qs39 q12 q1314 ⟨by decide, by decide, by decide +kernel⟩
def f_X9_isSoWithout (v : Ob) (v_d : Ob) (v_d_p : Ob) (v_d_k : Ob) (v_t : Ob) (v_k : Ob) (v0 : Ob) (v1 : Ob) : Option (Int32 × Ob × Ob × Ob × Ob) := (f_X10_copyFrom v_t v0).bind (fun q1 => (f_X9_passesAsSeen v v_d v_d_p v_d_k q1 v_k v1).bind (fun q2 => grd (bz q2.1) (some (q2.1, q2.2.1, q2.2.2.1, q2.2.2.2.1, q2.2.2.2.2))))
set_option maxRecDepth 20000 in
theorem c_X9_isSoWithout {l : Launch} {D : va_G} {dT : Nat → ClassId} {a : Nat → Nat} {a_d : Nat → Nat} {a_d_p : Nat → Nat} {a_d_k : Nat → Nat} {a_t : Nat → Nat} {a_k : Nat → Nat} {a0 : Nat → Nat} {a1 : Nat → Nat} {v : Ob} {v_d : Ob} {v_d_p : Ob} {v_d_k : Ob} {v_t : Ob} {v_k : Ob} {v0 : Ob} {v1 : Ob} {res : Int32 × Ob × Ob × Ob × Ob} (hf : f_X9_isSoWithout v v_d v_d_p v_d_k v_t v_k v0 v1 = some res) : CTi l yX9_isSoWithout cX9_isSoWithout 3 (some .boolean) ({ frames := 7, cells := 0, slots := 0, locals := 153 } : Room) D dT [.ref (a 0), .ref (a0 0), .ref (a1 0)] ([wT dT a (a_d 0) (a_t 0) (a_k 0) v, wD dT a_d (a_d_p 0) (a_d_k 0) v_d, wR dT a_d_p v_d_p, wR dT a_d_k v_d_k, wV dT a_t v_t, wK dT a_k v_k, wV dT a0 v0, wS dT a1 v1]) ([wT dT a (a_d 0) (a_t 0) (a_k 0) v, wD dT a_d (a_d_p 0) (a_d_k 0) res.2.1, wR dT a_d_p res.2.2.1, wR dT a_d_k res.2.2.2.1, wV dT a_t res.2.2.2.2, wK dT a_k v_k, wV dT a0 v0, wS dT a1 v1]) res.1 := by
  refine CTi.of (by decide) (Nat.le_of_ble_eq_true rfl) rfl ?_
  intro p e s m args below meth c A C
  unfold f_X9_isSoWithout at hf
  refine wa_aload_n C 0 1 dX9_isSoWithout_0 rfl rfl ?_
  refine wa_get C 4 0 0 1 dX9_isSoWithout_1 rfl iX9 q328 rfl (Nat.le_of_ble_eq_true rfl) rfl rfl rfl ?_
  refine wa_aload_n C 1 5 dX9_isSoWithout_4 rfl rfl ?_
  obtain ⟨q1, hq1, hf⟩ := bind_ex hf
  refine wa_callVv (b1 := 4) (q1 := 0) (ci := 10) (ws' := [wT dT a (a_d 0) (a_t 0) (a_k 0) v, wD dT a_d (a_d_p 0) (a_d_k 0) v_d, wR dT a_d_p v_d_p, wR dT a_d_k v_d_k, wV dT a_t q1, wK dT a_k v_k, wV dT a0 v0, wS dT a1 v1]) (As := [.ref (a0 0)]) C 8 dX9_isSoWithout_5 rfl kv_X9_64 (c_X10_copyFrom hq1) ⟨rfl, rfl⟩ ⟨Nat.le_of_ble_eq_true rfl, Nat.le_of_ble_eq_true rfl⟩ rfl rfl rfl [4, 6] [0, 1, 2, 3, 5, 7] [0, 1, 2, 3, 6, 4, 7, 5] rfl rfl rfl rfl (by decide) rfl rfl rfl rfl ⟨Nat.zero_le _, Nat.zero_le _⟩ (Nat.le_of_ble_eq_true rfl) ?_
  refine wa_aload_n C 0 9 dX9_isSoWithout_8 rfl rfl ?_
  refine wa_aload_n C 2 10 dX9_isSoWithout_9 rfl rfl ?_
  obtain ⟨q2, hq2, hf⟩ := bind_ex hf
  refine wa_callVi (b1 := 0) (q1 := 0) (ci := 9) (ws' := [wT dT a (a_d 0) (a_t 0) (a_k 0) v, wD dT a_d (a_d_p 0) (a_d_k 0) q2.2.1, wR dT a_d_p q2.2.2.1, wR dT a_d_k q2.2.2.2.1, wV dT a_t q2.2.2.2.2, wK dT a_k v_k, wV dT a0 v0, wS dT a1 v1]) (As := [.ref (a1 0)]) C 13 dX9_isSoWithout_10 rfl kv_X9_103 (c_X9_passesAsSeen hq2) ⟨rfl, rfl⟩ ⟨Nat.le_of_ble_eq_true rfl, Nat.le_of_ble_eq_true rfl⟩ rfl rfl rfl [0, 1, 2, 3, 4, 5, 7] [6] [1, 2, 3, 4, 5, 6, 0, 7] rfl rfl rfl rfl (by decide) rfl rfl rfl rfl ⟨Nat.zero_le _, Nat.zero_le _⟩ (Nat.le_of_ble_eq_true rfl) ?_
  obtain ⟨g3, hf⟩ := grd_ex hf
  cases hf
  exact wa_zret C dX9_isSoWithout_13 (bz_nar g3) rfl rfl
def f_X9_tryWith (v : Ob) (v_d : Ob) (v_d_p : Ob) (v_d_k : Ob) (v_t : Ob) (v_k : Ob) (v0 : Ob) (p1 : Int32) (p2 : Int32) : Option (Ob) := (f_X10_copyFrom v_t v0).bind (fun q1 => grd (vi p1 12) (bnd (q1.1, uA q1.2 1 (p1).toNatClampNeg p2) (fun y3 => some (y3))))
set_option maxRecDepth 20000 in
theorem c_X9_tryWith {l : Launch} {D : va_G} {dT : Nat → ClassId} {a : Nat → Nat} {a_d : Nat → Nat} {a_d_p : Nat → Nat} {a_d_k : Nat → Nat} {a_t : Nat → Nat} {a_k : Nat → Nat} {a0 : Nat → Nat} {v : Ob} {v_d : Ob} {v_d_p : Ob} {v_d_k : Ob} {v_t : Ob} {v_k : Ob} {v0 : Ob} {p1 : Int32} {p2 : Int32} {res : Ob} (hf : f_X9_tryWith v v_d v_d_p v_d_k v_t v_k v0 p1 p2 = some res) : CTv l yX9_tryWith cX9_tryWith 4 none ({ frames := 4, cells := 0, slots := 0, locals := 81 } : Room) D dT [.ref (a 0), .ref (a0 0), .int p1, .int p2] ([wT dT a (a_d 0) (a_t 0) (a_k 0) v, wD dT a_d (a_d_p 0) (a_d_k 0) v_d, wR dT a_d_p v_d_p, wR dT a_d_k v_d_k, wV dT a_t v_t, wK dT a_k v_k, wV dT a0 v0]) ([wT dT a (a_d 0) (a_t 0) (a_k 0) v, wD dT a_d (a_d_p 0) (a_d_k 0) v_d, wR dT a_d_p v_d_p, wR dT a_d_k v_d_k, wV dT a_t res, wK dT a_k v_k, wV dT a0 v0]) := by
  refine CTv.of (by decide) (Nat.le_of_ble_eq_true rfl) rfl ?_
  intro p e s m args below meth c A C
  unfold f_X9_tryWith at hf
  refine wa_aload_n C 0 1 dX9_tryWith_0 rfl rfl ?_
  refine wa_get C 4 0 0 1 dX9_tryWith_1 rfl iX9 q328 rfl (Nat.le_of_ble_eq_true rfl) rfl rfl rfl ?_
  refine wa_aload_n C 1 5 dX9_tryWith_4 rfl rfl ?_
  obtain ⟨q1, hq1, hf⟩ := bind_ex hf
  refine wa_callVv (b1 := 4) (q1 := 0) (ci := 10) (ws' := [wT dT a (a_d 0) (a_t 0) (a_k 0) v, wD dT a_d (a_d_p 0) (a_d_k 0) v_d, wR dT a_d_p v_d_p, wR dT a_d_k v_d_k, wV dT a_t q1, wK dT a_k v_k, wV dT a0 v0]) (As := [.ref (a0 0)]) C 8 dX9_tryWith_5 rfl kv_X9_64 (c_X10_copyFrom hq1) ⟨rfl, rfl⟩ ⟨Nat.le_of_ble_eq_true rfl, Nat.le_of_ble_eq_true rfl⟩ rfl rfl rfl [4, 6] [0, 1, 2, 3, 5] [0, 1, 2, 3, 5, 4, 6] rfl rfl rfl rfl (by decide) rfl rfl rfl rfl ⟨Nat.zero_le _, Nat.zero_le _⟩ (Nat.le_of_ble_eq_true rfl) ?_
  refine wa_aload_n C 0 9 dX9_tryWith_8 rfl rfl ?_
  refine wa_get C 12 0 0 1 dX9_tryWith_9 rfl iX9 q328 rfl (Nat.le_of_ble_eq_true rfl) rfl rfl rfl ?_
  refine wa_get C 15 4 0 3 dX9_tryWith_12 rfl iX10 q69 rfl (Nat.le_of_ble_eq_true rfl) rfl rfl rfl ?_
  refine wa_iload_n C 2 16 dX9_tryWith_15 rfl rfl ?_
  refine wa_iload_n C 3 17 dX9_tryWith_16 rfl rfl ?_
  obtain ⟨g2, hf⟩ := grd_ex hf
  obtain ⟨y3, ey3, hf⟩ := bnd_ex hf
  refine wa_iast (ws' := [wT dT a (a_d 0) (a_t 0) (a_k 0) v, wD dT a_d (a_d_p 0) (a_d_k 0) v_d, wR dT a_d_p v_d_p, wR dT a_d_k v_d_k, wV dT a_t y3, wK dT a_k v_k, wV dT a0 v0]) C 18 4 1 dX9_tryWith_17 rfl rfl rfl (vi_in g2) (by rw [ey3]; rfl) ?_
  cases hf
  exact wa_vret C dX9_tryWith_18 rfl
def f_X9_noteSizes_L28 (z5 : Ob) : Nat → Int32 → Ob → Ob → Ob → Ob → Ob → Option (Ob × Ob × Ob × Ob × Ob)
  | 0, _, _, _, _, _, _ => none
  | n + 1, l1, z0, z1, z2, z3, z4 => (if (z4.1 0) ≤ l1 then some (z0, z1, z2, z3, z4) else grd (vi l1 12) (grd (vi l1 12) (grd (vi (z4.2 2 (l1).toNatClampNeg) 13) (grd (vi l1 12) (bnd (z0.1, uA z0.2 1 (l1).toNatClampNeg ((z0.2 1 (l1).toNatClampNeg) ||| ((1 : Int32) <<< ((z4.2 6 ((z4.2 2 (l1).toNatClampNeg)).toNatClampNeg) &&& 31)))) (fun y7 => bnd (l1 + 1) (fun x8 => f_X9_noteSizes_L28 z5 n x8 y7 z1 z2 z3 z4)))))))
def f_X9_noteSizes_L2 (z5 : Ob) : Nat → Int32 → Ob → Ob → Ob → Ob → Ob → Option (Ob × Ob × Ob × Ob × Ob)
  | 0, _, _, _, _, _, _ => none
  | n + 1, l1, z0, z1, z2, z3, z4 => (if (5 : Int32) ≤ l1 then f_X9_noteSizes_L28 z5 FUEL (0 : Int32) z0 z1 z2 z3 z4 else (f_X2_pass z1 z2 z3 z4 (0 : Int32)).bind (fun q9 => bnd (l1 + 1) (fun x10 => f_X9_noteSizes_L2 z5 n x10 z0 q9.2.1 q9.2.2.1 q9.2.2.2.1 q9.2.2.2.2)))
def f_X9_noteSizes (v : Ob) (v_d : Ob) (v_d_p : Ob) (v_d_k : Ob) (v_t : Ob) (v_k : Ob) : Option (Ob × Ob × Ob × Ob × Ob) := f_X9_noteSizes_L2 v_k FUEL (0 : Int32) v v_d v_d_p v_d_k v_t
set_option maxRecDepth 20000 in
theorem w_X9_noteSizes_L28 {p : Program} {l : Launch} {e : Env} {s : State} {m : MethodId} {args : Array Value} {below : List Frame} {meth : Method} {c : Code} {D : va_G} {A : Nat → Prop} {dT : Nat → ClassId} {a : Nat → Nat} {a_d : Nat → Nat} {a_d_p : Nat → Nat} {a_d_k : Nat → Nat} {a_t : Nat → Nat} {a_k : Nat → Nat} {res : Ob × Ob × Ob × Ob × Ob} {z5 : Ob} (C : Cx p s m args meth c cX9_noteSizes 2 RX9 none D A dT) : ∀ (n : Nat) (l1 : Int32) (z0 : Ob) (z1 : Ob) (z2 : Ob) (z3 : Ob) (z4 : Ob), f_X9_noteSizes_L28 z5 n l1 z0 z1 z2 z3 z4 = some res → WA p l e ({ frames := 6, cells := 0, slots := 0, locals := 130 } : Room) s m args below meth c (MQ below (QV D dT A ([wT dT a (a_d 0) (a_t 0) (a_k 0) res.1, wD dT a_d (a_d_p 0) (a_d_k 0) res.2.1, wR dT a_d_p res.2.2.1, wR dT a_d_k res.2.2.2.1, wV dT a_t res.2.2.2.2, wK dT a_k z5])) args s 0 0 A) D A 0 0 2 28 ([wT dT a (a_d 0) (a_t 0) (a_k 0) z0, wD dT a_d (a_d_p 0) (a_d_k 0) z1, wR dT a_d_p z2, wR dT a_d_k z3, wV dT a_t z4, wK dT a_k z5]) [(0, .ref (a 0)), (1, .int l1)] [] := by
  intro n
  induction n with
  | zero => intro l1 z0 z1 z2 z3 z4 hf; cases hf
  | succ n ih =>
    intro l1 z0 z1 z2 z3 z4 hf
    unfold f_X9_noteSizes_L28 at hf
    refine wa_iload_n C 1 29 dX9_noteSizes_28 rfl rfl ?_
    refine wa_aload_n C 0 30 dX9_noteSizes_29 rfl rfl ?_
    refine wa_get C 33 0 0 1 dX9_noteSizes_30 rfl iX9 q328 rfl (Nat.le_of_ble_eq_true rfl) rfl rfl rfl ?_
    refine wa_get C 36 4 0 0 dX9_noteSizes_33 rfl iX10 q49 rfl (Nat.le_of_ble_eq_true rfl) rfl rfl rfl ?_
    refine wa_icmp_ge C 73 39 dX9_noteSizes_36 rfl rfl (fun c2 => ?_) (fun c2 => ?_)
    · replace hf := ite_t hf c2
      cases hf
      exact wa_vret C dX9_noteSizes_73 rfl
    · replace hf := ite_f hf c2
      refine wa_aload_n C 0 40 dX9_noteSizes_39 rfl rfl ?_
      refine wa_get C 43 0 0 5 dX9_noteSizes_40 rfl iX9 q334 rfl (Nat.le_of_ble_eq_true rfl) rfl rfl rfl ?_
      refine wa_iload_n C 1 44 dX9_noteSizes_43 rfl rfl ?_
      refine wa_dup2 C 45 dX9_noteSizes_44 rfl rfl rfl ?_
      obtain ⟨g3, hf⟩ := grd_ex hf
      refine wa_iald C 46 0 1 dX9_noteSizes_45 rfl rfl rfl (vi_in g3) ?_
      refine wa_iconst (v := 1) C 47 dX9_noteSizes_46 rfl rfl ?_
      refine wa_aload_n C 0 48 dX9_noteSizes_47 rfl rfl ?_
      refine wa_get C 51 0 0 1 dX9_noteSizes_48 rfl iX9 q328 rfl (Nat.le_of_ble_eq_true rfl) rfl rfl rfl ?_
      refine wa_get C 54 4 0 8 dX9_noteSizes_51 rfl iX10 q92 rfl (Nat.le_of_ble_eq_true rfl) rfl rfl rfl ?_
      refine wa_aload_n C 0 55 dX9_noteSizes_54 rfl rfl ?_
      refine wa_get C 58 0 0 1 dX9_noteSizes_55 rfl iX9 q328 rfl (Nat.le_of_ble_eq_true rfl) rfl rfl rfl ?_
      refine wa_get C 61 4 0 4 dX9_noteSizes_58 rfl iX10 q71 rfl (Nat.le_of_ble_eq_true rfl) rfl rfl rfl ?_
      refine wa_iload_n C 1 62 dX9_noteSizes_61 rfl rfl ?_
      obtain ⟨g4, hf⟩ := grd_ex hf
      refine wa_iald C 63 4 2 dX9_noteSizes_62 rfl rfl rfl (vi_in g4) ?_
      obtain ⟨g5, hf⟩ := grd_ex hf
      refine wa_iald C 64 4 6 dX9_noteSizes_63 rfl rfl rfl (vi_in g5) ?_
      refine wa_ishl C 65 dX9_noteSizes_64 rfl ?_
      refine wa_ior C 66 dX9_noteSizes_65 rfl ?_
      obtain ⟨g6, hf⟩ := grd_ex hf
      obtain ⟨y7, ey7, hf⟩ := bnd_ex hf
      refine wa_iast (ws' := [wT dT a (a_d 0) (a_t 0) (a_k 0) y7, wD dT a_d (a_d_p 0) (a_d_k 0) z1, wR dT a_d_p z2, wR dT a_d_k z3, wV dT a_t z4, wK dT a_k z5]) C 67 0 1 dX9_noteSizes_66 rfl rfl rfl (vi_in g6) (by rw [ey7]; rfl) ?_
      obtain ⟨x8, ex8, hf⟩ := bnd_ex hf
      refine wa_iinc (v := x8) (lv' := [(0, .ref (a 0)), (1, .int x8)]) C 1 [1, 0] 70 dX9_noteSizes_67 rfl rfl (by rw [ex8]; rfl) (Nat.le_of_ble_eq_true rfl) rfl ?_
      refine wa_goto C 28 dX9_noteSizes_70 rfl ?_
      exact ih x8 y7 z1 z2 z3 z4 hf
set_option maxRecDepth 20000 in
theorem w_X9_noteSizes_L2 {p : Program} {l : Launch} {e : Env} {s : State} {m : MethodId} {args : Array Value} {below : List Frame} {meth : Method} {c : Code} {D : va_G} {A : Nat → Prop} {dT : Nat → ClassId} {a : Nat → Nat} {a_d : Nat → Nat} {a_d_p : Nat → Nat} {a_d_k : Nat → Nat} {a_t : Nat → Nat} {a_k : Nat → Nat} {res : Ob × Ob × Ob × Ob × Ob} {z5 : Ob} (C : Cx p s m args meth c cX9_noteSizes 2 RX9 none D A dT) : ∀ (n : Nat) (l1 : Int32) (z0 : Ob) (z1 : Ob) (z2 : Ob) (z3 : Ob) (z4 : Ob), f_X9_noteSizes_L2 z5 n l1 z0 z1 z2 z3 z4 = some res → WA p l e ({ frames := 6, cells := 0, slots := 0, locals := 130 } : Room) s m args below meth c (MQ below (QV D dT A ([wT dT a (a_d 0) (a_t 0) (a_k 0) res.1, wD dT a_d (a_d_p 0) (a_d_k 0) res.2.1, wR dT a_d_p res.2.2.1, wR dT a_d_k res.2.2.2.1, wV dT a_t res.2.2.2.2, wK dT a_k z5])) args s 0 0 A) D A 0 0 2 2 ([wT dT a (a_d 0) (a_t 0) (a_k 0) z0, wD dT a_d (a_d_p 0) (a_d_k 0) z1, wR dT a_d_p z2, wR dT a_d_k z3, wV dT a_t z4, wK dT a_k z5]) [(0, .ref (a 0)), (1, .int l1)] [] := by
  intro n
  induction n with
  | zero => intro l1 z0 z1 z2 z3 z4 hf; cases hf
  | succ n ih =>
    intro l1 z0 z1 z2 z3 z4 hf
    unfold f_X9_noteSizes_L2 at hf
    refine wa_iload_n C 1 3 dX9_noteSizes_2 rfl rfl ?_
    refine wa_iconst (v := 5) C 4 dX9_noteSizes_3 rfl rfl ?_
    refine wa_icmp_ge C 26 7 dX9_noteSizes_4 rfl rfl (fun c1 => ?_) (fun c1 => ?_)
    · replace hf := ite_t hf c1
      refine wa_iconst (v := 0) C 27 dX9_noteSizes_26 rfl rfl ?_
      refine wa_istore_n (lv' := [(0, .ref (a 0)), (1, .int (0 : Int32))]) C [1, 0] 28 dX9_noteSizes_27 rfl (Nat.le_of_ble_eq_true rfl) rfl ?_
      exact w_X9_noteSizes_L28 C FUEL (0 : Int32) z0 z1 z2 z3 z4 hf
    · replace hf := ite_f hf c1
      refine wa_aload_n C 0 8 dX9_noteSizes_7 rfl rfl ?_
      refine wa_get C 11 0 0 0 dX9_noteSizes_8 rfl iX9 q327 rfl (Nat.le_of_ble_eq_true rfl) rfl rfl rfl ?_
      refine wa_aload_n C 0 12 dX9_noteSizes_11 rfl rfl ?_
      refine wa_get C 15 0 0 1 dX9_noteSizes_12 rfl iX9 q328 rfl (Nat.le_of_ble_eq_true rfl) rfl rfl rfl ?_
      refine wa_iconst (v := 0) C 16 dX9_noteSizes_15 rfl rfl ?_
      obtain ⟨q9, hq9, hf⟩ := bind_ex hf
      refine wa_callVi (b1 := 1) (q1 := 0) (ci := 2) (ws' := [wT dT a (a_d 0) (a_t 0) (a_k 0) z0, wD dT a_d (a_d_p 0) (a_d_k 0) q9.2.1, wR dT a_d_p q9.2.2.1, wR dT a_d_k q9.2.2.2.1, wV dT a_t q9.2.2.2.2, wK dT a_k z5]) (As := [.ref (a_t 0), .int (0 : Int32)]) C 19 dX9_noteSizes_16 rfl kv_X9_80 (c_X2_pass hq9) ⟨rfl, rfl⟩ ⟨Nat.le_of_ble_eq_true rfl, Nat.le_of_ble_eq_true rfl⟩ rfl rfl rfl [1, 2, 3, 4] [0, 5] [0, 2, 3, 4, 5, 1] rfl rfl rfl rfl (by decide) rfl rfl rfl rfl ⟨Nat.zero_le _, Nat.zero_le _⟩ (Nat.le_of_ble_eq_true rfl) ?_
      refine wa_pop C 20 dX9_noteSizes_19 rfl rfl ?_
      obtain ⟨x10, ex10, hf⟩ := bnd_ex hf
      refine wa_iinc (v := x10) (lv' := [(0, .ref (a 0)), (1, .int x10)]) C 1 [1, 0] 23 dX9_noteSizes_20 rfl rfl (by rw [ex10]; rfl) (Nat.le_of_ble_eq_true rfl) rfl ?_
      refine wa_goto C 2 dX9_noteSizes_23 rfl ?_
      exact ih x10 z0 q9.2.1 q9.2.2.1 q9.2.2.2.1 q9.2.2.2.2 hf
set_option maxRecDepth 20000 in
theorem c_X9_noteSizes {l : Launch} {D : va_G} {dT : Nat → ClassId} {a : Nat → Nat} {a_d : Nat → Nat} {a_d_p : Nat → Nat} {a_d_k : Nat → Nat} {a_t : Nat → Nat} {a_k : Nat → Nat} {v : Ob} {v_d : Ob} {v_d_p : Ob} {v_d_k : Ob} {v_t : Ob} {v_k : Ob} {res : Ob × Ob × Ob × Ob × Ob} (hf : f_X9_noteSizes v v_d v_d_p v_d_k v_t v_k = some res) : CTv l yX9_noteSizes cX9_noteSizes 2 none ({ frames := 6, cells := 0, slots := 0, locals := 130 } : Room) D dT [.ref (a 0)] ([wT dT a (a_d 0) (a_t 0) (a_k 0) v, wD dT a_d (a_d_p 0) (a_d_k 0) v_d, wR dT a_d_p v_d_p, wR dT a_d_k v_d_k, wV dT a_t v_t, wK dT a_k v_k]) ([wT dT a (a_d 0) (a_t 0) (a_k 0) res.1, wD dT a_d (a_d_p 0) (a_d_k 0) res.2.1, wR dT a_d_p res.2.2.1, wR dT a_d_k res.2.2.2.1, wV dT a_t res.2.2.2.2, wK dT a_k v_k]) := by
  refine CTv.of (by decide) (Nat.le_of_ble_eq_true rfl) rfl ?_
  intro p e s m args below meth c A C
  unfold f_X9_noteSizes at hf
  refine wa_iconst (v := 0) C 1 dX9_noteSizes_0 rfl rfl ?_
  refine wa_istore_n (lv' := [(0, .ref (a 0)), (1, .int (0 : Int32))]) C [1, 0] 2 dX9_noteSizes_1 rfl (Nat.le_of_ble_eq_true rfl) rfl ?_
  exact w_X9_noteSizes_L2 C FUEL (0 : Int32) v v_d v_d_p v_d_k v_t hf
theorem ks_X9_117 : KS RX9 117 yJ7_fill_53178 cJ7_fill_53178 4 none 2 := KS.mk q1328 q472 q27 q473 ⟨by decide, by decide, by decide +kernel⟩
theorem kv_X9_123 : KV RX9 123 yX9_tryWith cX9_tryWith 4 none 3 := KV.mk q1329 q1331 qs40 q12 q1332 ⟨by decide, by decide, by decide +kernel⟩
theorem kv_X9_130 : KV RX9 130 yX9_noteSizes cX9_noteSizes 2 none 0 := KV.mk q1333 q1335 qs41 q12 q1336 ⟨by decide, by decide, by decide +kernel⟩
def f_X9_tryRanks_J88 (k33 : Int32 → Ob → Ob → Ob → Ob → Ob → Option (Ob × Ob × Ob × Ob × Ob)) (l3 : Int32) (l4 : Int32) (z5 : Ob) (z6 : Ob) (z7 : Ob) (l5 : Int32) (z0 : Ob) (z1 : Ob) (z2 : Ob) (z3 : Ob) (z4 : Ob) : Option (Ob × Ob × Ob × Ob × Ob) := bnd (upd z0.1 3 ((z0.1 3) + (1 : Int32)), z0.2) (fun y16 => (if l3 = 0 then bnd (l5 + 1) (fun x18 => k33 x18 y16 z1 z2 z3 z4) else (f_X9_tryWith y16 z1 z2 z3 z4 z5 z6 l4 l5).bind (fun q19 => (f_X9_noteSizes y16 z1 z2 z3 q19 z5).bind (fun q20 => bnd (l5 + 1) (fun x21 => k33 x21 q20.1 q20.2.1 q20.2.2.1 q20.2.2.2.1 q20.2.2.2.2)))))
def f_X9_tryRanks_L33 (k21 : Int32 → Ob → Ob → Ob → Ob → Ob → Option (Ob × Ob × Ob × Ob × Ob)) (l3 : Int32) (l4 : Int32) (z5 : Ob) (z6 : Ob) (z7 : Ob) : Nat → Int32 → Ob → Ob → Ob → Ob → Ob → Option (Ob × Ob × Ob × Ob × Ob)
  | 0, _, _, _, _, _, _ => none
  | n + 1, l5, z0, z1, z2, z3, z4 => (if (9 : Int32) < l5 then bnd (l4 + 1) (fun x7 => k21 x7 z0 z1 z2 z3 z4) else (f_X9_tryWith z0 z1 z2 z3 z4 z5 z6 l4 l5).bind (fun q8 => grd (vi l4 12) ((if l5 = (z6.2 1 (l4).toNatClampNeg) then bnd (l5 + 1) (fun x11 => f_X9_tryRanks_L33 k21 l3 l4 z5 z6 z7 n x11 z0 z1 z2 z3 q8) else (f_X9_passesAsSeen z0 z1 z2 z3 q8 z5 z7).bind (fun q12 => (if q12.1 = 0 then bnd (l5 + 1) (fun x14 => f_X9_tryRanks_L33 k21 l3 l4 z5 z6 z7 n x14 z0 q12.2.1 q12.2.2.1 q12.2.2.2.1 q12.2.2.2.2) else (if (z0.1 3) = 0 then bnd (upd z0.1 4 (((10 : Int32) * l4) + l5), z0.2) (fun y22 => f_X9_tryRanks_J88 (f_X9_tryRanks_L33 k21 l3 l4 z5 z6 z7 n) l3 l4 z5 z6 z7 l5 y22 q12.2.1 q12.2.2.1 q12.2.2.2.1 q12.2.2.2.2) else f_X9_tryRanks_J88 (f_X9_tryRanks_L33 k21 l3 l4 z5 z6 z7 n) l3 l4 z5 z6 z7 l5 z0 q12.2.1 q12.2.2.1 q12.2.2.2.1 q12.2.2.2.2)))))))
def f_X9_tryRanks_L21 (l3 : Int32) (z5 : Ob) (z6 : Ob) (z7 : Ob) : Nat → Int32 → Ob → Ob → Ob → Ob → Ob → Option (Ob × Ob × Ob × Ob × Ob)
  | 0, _, _, _, _, _, _ => none
  | n + 1, l4, z0, z1, z2, z3, z4 => (if (z6.1 0) ≤ l4 then some (z0, z1, z2, z3, z4) else f_X9_tryRanks_L33 (f_X9_tryRanks_L21 l3 z5 z6 z7 n) l3 l4 z5 z6 z7 FUEL (0 : Int32) z0 z1 z2 z3 z4)
def f_X9_tryRanks (v : Ob) (v_d : Ob) (v_d_p : Ob) (v_d_k : Ob) (v_t : Ob) (v_k : Ob) (v0 : Ob) (v1 : Ob) (p2 : Int32) : Option (Ob × Ob × Ob × Ob × Ob) := bnd (upd v.1 3 (0 : Int32), v.2) (fun y1 => bnd (upd y1.1 4 (-1 : Int32), y1.2) (fun y2 => (f_J7_fill_53178 (y2.2 1) 12 (0 : Int32)).bind (fun q3 => bnd (y2.1, sA y2.2 1 q3) (fun y4 => f_X9_tryRanks_L21 p2 v_k v0 v1 FUEL (0 : Int32) y4 v_d v_d_p v_d_k v_t))))
set_option maxRecDepth 20000 in
theorem w_X9_tryRanks_J88 {p : Program} {l : Launch} {e : Env} {s : State} {m : MethodId} {args : Array Value} {below : List Frame} {meth : Method} {c : Code} {D : va_G} {A : Nat → Prop} {dT : Nat → ClassId} {a : Nat → Nat} {a_d : Nat → Nat} {a_d_p : Nat → Nat} {a_d_k : Nat → Nat} {a_t : Nat → Nat} {a_k : Nat → Nat} {a0 : Nat → Nat} {a1 : Nat → Nat} {res : Ob × Ob × Ob × Ob × Ob} {l3 : Int32} {l4 : Int32} {z5 : Ob} {z6 : Ob} {z7 : Ob} (C : Cx p s m args meth c cX9_tryRanks 6 RX9 none D A dT) {k33 : Int32 → Ob → Ob → Ob → Ob → Ob → Option (Ob × Ob × Ob × Ob × Ob)} (hk33 : ∀ (l5 : Int32) (z0 : Ob) (z1 : Ob) (z2 : Ob) (z3 : Ob) (z4 : Ob), k33 l5 z0 z1 z2 z3 z4 = some res → WA p l e ({ frames := 7, cells := 0, slots := 0, locals := 153 } : Room) s m args below meth c (MQ below (QV D dT A ([wT dT a (a_d 0) (a_t 0) (a_k 0) res.1, wD dT a_d (a_d_p 0) (a_d_k 0) res.2.1, wR dT a_d_p res.2.2.1, wR dT a_d_k res.2.2.2.1, wV dT a_t res.2.2.2.2, wK dT a_k z5, wV dT a0 z6, wS dT a1 z7])) args s 0 0 A) D A 0 0 6 33 ([wT dT a (a_d 0) (a_t 0) (a_k 0) z0, wD dT a_d (a_d_p 0) (a_d_k 0) z1, wR dT a_d_p z2, wR dT a_d_k z3, wV dT a_t z4, wK dT a_k z5, wV dT a0 z6, wS dT a1 z7]) [(0, .ref (a 0)), (1, .ref (a0 0)), (2, .ref (a1 0)), (3, .int l3), (4, .int l4), (5, .int l5)] []) : ∀ (l5 : Int32) (z0 : Ob) (z1 : Ob) (z2 : Ob) (z3 : Ob) (z4 : Ob), f_X9_tryRanks_J88 k33 l3 l4 z5 z6 z7 l5 z0 z1 z2 z3 z4 = some res → WA p l e ({ frames := 7, cells := 0, slots := 0, locals := 153 } : Room) s m args below meth c (MQ below (QV D dT A ([wT dT a (a_d 0) (a_t 0) (a_k 0) res.1, wD dT a_d (a_d_p 0) (a_d_k 0) res.2.1, wR dT a_d_p res.2.2.1, wR dT a_d_k res.2.2.2.1, wV dT a_t res.2.2.2.2, wK dT a_k z5, wV dT a0 z6, wS dT a1 z7])) args s 0 0 A) D A 0 0 6 88 ([wT dT a (a_d 0) (a_t 0) (a_k 0) z0, wD dT a_d (a_d_p 0) (a_d_k 0) z1, wR dT a_d_p z2, wR dT a_d_k z3, wV dT a_t z4, wK dT a_k z5, wV dT a0 z6, wS dT a1 z7]) [(0, .ref (a 0)), (1, .ref (a0 0)), (2, .ref (a1 0)), (3, .int l3), (4, .int l4), (5, .int l5)] [] := by
  intro l5 z0 z1 z2 z3 z4 hf
  unfold f_X9_tryRanks_J88 at hf
  refine wa_aload_n C 0 89 dX9_tryRanks_88 rfl rfl ?_
  refine wa_dup C 90 dX9_tryRanks_89 rfl rfl ?_
  refine wa_get C 93 0 0 3 dX9_tryRanks_90 rfl iX9 q330 rfl (Nat.le_of_ble_eq_true rfl) rfl rfl rfl ?_
  refine wa_iconst (v := 1) C 94 dX9_tryRanks_93 rfl rfl ?_
  refine wa_iadd C 95 dX9_tryRanks_94 rfl ?_
  obtain ⟨y16, ey16, hf⟩ := bnd_ex hf
  refine wa_put (ws' := [wT dT a (a_d 0) (a_t 0) (a_k 0) y16, wD dT a_d (a_d_p 0) (a_d_k 0) z1, wR dT a_d_p z2, wR dT a_d_k z3, wV dT a_t z4, wK dT a_k z5, wV dT a0 z6, wS dT a1 z7]) C 98 0 0 3 tyX9 dX9_tryRanks_95 rfl iX9 tyX9_ok nmX9 q330 rfl (Nat.le_of_ble_eq_true rfl) rfl rfl rfl rfl rfl (Nat.le_of_ble_eq_true rfl) (by rw [ey16]; rfl) ?_
  refine wa_iload_n C 3 99 dX9_tryRanks_98 rfl rfl ?_
  refine wa_if_eq C 115 102 dX9_tryRanks_99 rfl rfl (fun c17 => ?_) (fun c17 => ?_)
  · replace hf := ite_t hf c17
    obtain ⟨x18, ex18, hf⟩ := bnd_ex hf
    refine wa_iinc (v := x18) (lv' := [(0, .ref (a 0)), (1, .ref (a0 0)), (2, .ref (a1 0)), (3, .int l3), (4, .int l4), (5, .int x18)]) C 5 [1, 2, 3, 4, 5, 0] 118 dX9_tryRanks_115 rfl rfl (by rw [ex18]; rfl) (Nat.le_of_ble_eq_true rfl) rfl ?_
    refine wa_goto C 33 dX9_tryRanks_118 rfl ?_
    exact hk33 x18 y16 z1 z2 z3 z4 hf
  · replace hf := ite_f hf c17
    refine wa_aload_n C 0 103 dX9_tryRanks_102 rfl rfl ?_
    refine wa_aload_n C 1 104 dX9_tryRanks_103 rfl rfl ?_
    refine wa_iload C 4 106 dX9_tryRanks_104 rfl rfl ?_
    refine wa_iload C 5 108 dX9_tryRanks_106 rfl rfl ?_
    obtain ⟨q19, hq19, hf⟩ := bind_ex hf
    refine wa_callVv (b1 := 0) (q1 := 0) (ci := 9) (ws' := [wT dT a (a_d 0) (a_t 0) (a_k 0) y16, wD dT a_d (a_d_p 0) (a_d_k 0) z1, wR dT a_d_p z2, wR dT a_d_k z3, wV dT a_t q19, wK dT a_k z5, wV dT a0 z6, wS dT a1 z7]) (As := [.ref (a0 0), .int l4, .int l5]) C 111 dX9_tryRanks_108 rfl kv_X9_123 (c_X9_tryWith hq19) ⟨rfl, rfl⟩ ⟨Nat.le_of_ble_eq_true rfl, Nat.le_of_ble_eq_true rfl⟩ rfl rfl rfl [0, 1, 2, 3, 4, 5, 6] [7] [1, 2, 3, 4, 5, 6, 7, 0] rfl rfl rfl rfl (by decide) rfl rfl rfl rfl ⟨Nat.zero_le _, Nat.zero_le _⟩ (Nat.le_of_ble_eq_true rfl) ?_
    refine wa_aload_n C 0 112 dX9_tryRanks_111 rfl rfl ?_
    obtain ⟨q20, hq20, hf⟩ := bind_ex hf
    refine wa_callVv (b1 := 0) (q1 := 0) (ci := 9) (ws' := [wT dT a (a_d 0) (a_t 0) (a_k 0) q20.1, wD dT a_d (a_d_p 0) (a_d_k 0) q20.2.1, wR dT a_d_p q20.2.2.1, wR dT a_d_k q20.2.2.2.1, wV dT a_t q20.2.2.2.2, wK dT a_k z5, wV dT a0 z6, wS dT a1 z7]) (As := []) C 115 dX9_tryRanks_112 rfl kv_X9_130 (c_X9_noteSizes hq20) ⟨rfl, rfl⟩ ⟨Nat.le_of_ble_eq_true rfl, Nat.le_of_ble_eq_true rfl⟩ rfl rfl rfl [0, 1, 2, 3, 4, 5] [6, 7] [2, 3, 4, 5, 6, 7, 0, 1] rfl rfl rfl rfl (by decide) rfl rfl rfl rfl ⟨Nat.zero_le _, Nat.zero_le _⟩ (Nat.le_of_ble_eq_true rfl) ?_
    obtain ⟨x21, ex21, hf⟩ := bnd_ex hf
    refine wa_iinc (v := x21) (lv' := [(0, .ref (a 0)), (1, .ref (a0 0)), (2, .ref (a1 0)), (3, .int l3), (4, .int l4), (5, .int x21)]) C 5 [1, 2, 3, 4, 5, 0] 118 dX9_tryRanks_115 rfl rfl (by rw [ex21]; rfl) (Nat.le_of_ble_eq_true rfl) rfl ?_
    refine wa_goto C 33 dX9_tryRanks_118 rfl ?_
    exact hk33 x21 q20.1 q20.2.1 q20.2.2.1 q20.2.2.2.1 q20.2.2.2.2 hf
set_option maxRecDepth 20000 in
theorem w_X9_tryRanks_L33 {p : Program} {l : Launch} {e : Env} {s : State} {m : MethodId} {args : Array Value} {below : List Frame} {meth : Method} {c : Code} {D : va_G} {A : Nat → Prop} {dT : Nat → ClassId} {a : Nat → Nat} {a_d : Nat → Nat} {a_d_p : Nat → Nat} {a_d_k : Nat → Nat} {a_t : Nat → Nat} {a_k : Nat → Nat} {a0 : Nat → Nat} {a1 : Nat → Nat} {res : Ob × Ob × Ob × Ob × Ob} {l3 : Int32} {l4 : Int32} {z5 : Ob} {z6 : Ob} {z7 : Ob} (C : Cx p s m args meth c cX9_tryRanks 6 RX9 none D A dT) {k21 : Int32 → Ob → Ob → Ob → Ob → Ob → Option (Ob × Ob × Ob × Ob × Ob)} (hk21 : ∀ (l4 : Int32) (z0 : Ob) (z1 : Ob) (z2 : Ob) (z3 : Ob) (z4 : Ob), k21 l4 z0 z1 z2 z3 z4 = some res → WA p l e ({ frames := 7, cells := 0, slots := 0, locals := 153 } : Room) s m args below meth c (MQ below (QV D dT A ([wT dT a (a_d 0) (a_t 0) (a_k 0) res.1, wD dT a_d (a_d_p 0) (a_d_k 0) res.2.1, wR dT a_d_p res.2.2.1, wR dT a_d_k res.2.2.2.1, wV dT a_t res.2.2.2.2, wK dT a_k z5, wV dT a0 z6, wS dT a1 z7])) args s 0 0 A) D A 0 0 6 21 ([wT dT a (a_d 0) (a_t 0) (a_k 0) z0, wD dT a_d (a_d_p 0) (a_d_k 0) z1, wR dT a_d_p z2, wR dT a_d_k z3, wV dT a_t z4, wK dT a_k z5, wV dT a0 z6, wS dT a1 z7]) [(0, .ref (a 0)), (1, .ref (a0 0)), (2, .ref (a1 0)), (3, .int l3), (4, .int l4)] []) : ∀ (n : Nat) (l5 : Int32) (z0 : Ob) (z1 : Ob) (z2 : Ob) (z3 : Ob) (z4 : Ob), f_X9_tryRanks_L33 k21 l3 l4 z5 z6 z7 n l5 z0 z1 z2 z3 z4 = some res → WA p l e ({ frames := 7, cells := 0, slots := 0, locals := 153 } : Room) s m args below meth c (MQ below (QV D dT A ([wT dT a (a_d 0) (a_t 0) (a_k 0) res.1, wD dT a_d (a_d_p 0) (a_d_k 0) res.2.1, wR dT a_d_p res.2.2.1, wR dT a_d_k res.2.2.2.1, wV dT a_t res.2.2.2.2, wK dT a_k z5, wV dT a0 z6, wS dT a1 z7])) args s 0 0 A) D A 0 0 6 33 ([wT dT a (a_d 0) (a_t 0) (a_k 0) z0, wD dT a_d (a_d_p 0) (a_d_k 0) z1, wR dT a_d_p z2, wR dT a_d_k z3, wV dT a_t z4, wK dT a_k z5, wV dT a0 z6, wS dT a1 z7]) [(0, .ref (a 0)), (1, .ref (a0 0)), (2, .ref (a1 0)), (3, .int l3), (4, .int l4), (5, .int l5)] [] := by
  intro n
  induction n with
  | zero => intro l5 z0 z1 z2 z3 z4 hf; cases hf
  | succ n ih =>
    intro l5 z0 z1 z2 z3 z4 hf
    unfold f_X9_tryRanks_L33 at hf
    refine wa_iload C 5 35 dX9_tryRanks_33 rfl rfl ?_
    refine wa_bipush (v := 9) C 37 dX9_tryRanks_35 rfl rfl ?_
    refine wa_icmp_gt C 121 40 dX9_tryRanks_37 rfl rfl (fun c6 => ?_) (fun c6 => ?_)
    · replace hf := ite_t hf c6
      obtain ⟨x7, ex7, hf⟩ := bnd_ex hf
      refine wa_iinc (v := x7) (lv' := [(0, .ref (a 0)), (1, .ref (a0 0)), (2, .ref (a1 0)), (3, .int l3), (4, .int x7), (5, .int l5)]) C 4 [1, 2, 3, 4, 0, 5] 124 dX9_tryRanks_121 rfl rfl (by rw [ex7]; rfl) (Nat.le_of_ble_eq_true rfl) rfl ?_
      refine wa_goto C 21 dX9_tryRanks_124 rfl ?_
      refine wa_lv (lv' := [(0, .ref (a 0)), (1, .ref (a0 0)), (2, .ref (a1 0)), (3, .int l3), (4, .int x7)]) [0, 1, 2, 3, 4] rfl ?_
      exact hk21 x7 z0 z1 z2 z3 z4 hf
    · replace hf := ite_f hf c6
      refine wa_aload_n C 0 41 dX9_tryRanks_40 rfl rfl ?_
      refine wa_aload_n C 1 42 dX9_tryRanks_41 rfl rfl ?_
      refine wa_iload C 4 44 dX9_tryRanks_42 rfl rfl ?_
      refine wa_iload C 5 46 dX9_tryRanks_44 rfl rfl ?_
      obtain ⟨q8, hq8, hf⟩ := bind_ex hf
      refine wa_callVv (b1 := 0) (q1 := 0) (ci := 9) (ws' := [wT dT a (a_d 0) (a_t 0) (a_k 0) z0, wD dT a_d (a_d_p 0) (a_d_k 0) z1, wR dT a_d_p z2, wR dT a_d_k z3, wV dT a_t q8, wK dT a_k z5, wV dT a0 z6, wS dT a1 z7]) (As := [.ref (a0 0), .int l4, .int l5]) C 49 dX9_tryRanks_46 rfl kv_X9_123 (c_X9_tryWith hq8) ⟨rfl, rfl⟩ ⟨Nat.le_of_ble_eq_true rfl, Nat.le_of_ble_eq_true rfl⟩ rfl rfl rfl [0, 1, 2, 3, 4, 5, 6] [7] [1, 2, 3, 4, 5, 6, 7, 0] rfl rfl rfl rfl (by decide) rfl rfl rfl rfl ⟨Nat.zero_le _, Nat.zero_le _⟩ (Nat.le_of_ble_eq_true rfl) ?_
      refine wa_iload C 5 51 dX9_tryRanks_49 rfl rfl ?_
      refine wa_aload_n C 1 52 dX9_tryRanks_51 rfl rfl ?_
      refine wa_get C 55 6 0 3 dX9_tryRanks_52 rfl iX10 q69 rfl (Nat.le_of_ble_eq_true rfl) rfl rfl rfl ?_
      refine wa_iload C 4 57 dX9_tryRanks_55 rfl rfl ?_
      obtain ⟨g9, hf⟩ := grd_ex hf
      refine wa_iald C 58 6 1 dX9_tryRanks_57 rfl rfl rfl (vi_in g9) ?_
      refine wa_icmp_eq C 115 61 dX9_tryRanks_58 rfl rfl (fun c10 => ?_) (fun c10 => ?_)
      · replace hf := ite_t hf c10
        obtain ⟨x11, ex11, hf⟩ := bnd_ex hf
        refine wa_iinc (v := x11) (lv' := [(0, .ref (a 0)), (1, .ref (a0 0)), (2, .ref (a1 0)), (3, .int l3), (4, .int l4), (5, .int x11)]) C 5 [1, 2, 3, 4, 5, 0] 118 dX9_tryRanks_115 rfl rfl (by rw [ex11]; rfl) (Nat.le_of_ble_eq_true rfl) rfl ?_
        refine wa_goto C 33 dX9_tryRanks_118 rfl ?_
        exact ih x11 z0 z1 z2 z3 q8 hf
      · replace hf := ite_f hf c10
        refine wa_aload_n C 0 62 dX9_tryRanks_61 rfl rfl ?_
        refine wa_aload_n C 2 63 dX9_tryRanks_62 rfl rfl ?_
        obtain ⟨q12, hq12, hf⟩ := bind_ex hf
        refine wa_callVi (b1 := 0) (q1 := 0) (ci := 9) (ws' := [wT dT a (a_d 0) (a_t 0) (a_k 0) z0, wD dT a_d (a_d_p 0) (a_d_k 0) q12.2.1, wR dT a_d_p q12.2.2.1, wR dT a_d_k q12.2.2.2.1, wV dT a_t q12.2.2.2.2, wK dT a_k z5, wV dT a0 z6, wS dT a1 z7]) (As := [.ref (a1 0)]) C 66 dX9_tryRanks_63 rfl kv_X9_103 (c_X9_passesAsSeen hq12) ⟨rfl, rfl⟩ ⟨Nat.le_of_ble_eq_true rfl, Nat.le_of_ble_eq_true rfl⟩ rfl rfl rfl [0, 1, 2, 3, 4, 5, 7] [6] [1, 2, 3, 4, 5, 6, 0, 7] rfl rfl rfl rfl (by decide) rfl rfl rfl rfl ⟨Nat.zero_le _, Nat.zero_le _⟩ (Nat.le_of_ble_eq_true rfl) ?_
        refine wa_if_eq C 115 69 dX9_tryRanks_66 rfl rfl (fun c13 => ?_) (fun c13 => ?_)
        · replace hf := ite_t hf c13
          obtain ⟨x14, ex14, hf⟩ := bnd_ex hf
          refine wa_iinc (v := x14) (lv' := [(0, .ref (a 0)), (1, .ref (a0 0)), (2, .ref (a1 0)), (3, .int l3), (4, .int l4), (5, .int x14)]) C 5 [1, 2, 3, 4, 5, 0] 118 dX9_tryRanks_115 rfl rfl (by rw [ex14]; rfl) (Nat.le_of_ble_eq_true rfl) rfl ?_
          refine wa_goto C 33 dX9_tryRanks_118 rfl ?_
          exact ih x14 z0 q12.2.1 q12.2.2.1 q12.2.2.2.1 q12.2.2.2.2 hf
        · replace hf := ite_f hf c13
          refine wa_aload_n C 0 70 dX9_tryRanks_69 rfl rfl ?_
          refine wa_get C 73 0 0 3 dX9_tryRanks_70 rfl iX9 q330 rfl (Nat.le_of_ble_eq_true rfl) rfl rfl rfl ?_
          refine wa_if_ne C 88 76 dX9_tryRanks_73 rfl rfl (fun c15 => ?_) (fun c15 => ?_)
          · replace hf := ite_f hf c15
            exact w_X9_tryRanks_J88 C ih l5 z0 q12.2.1 q12.2.2.1 q12.2.2.2.1 q12.2.2.2.2 hf
          · replace hf := ite_t hf c15
            refine wa_aload_n C 0 77 dX9_tryRanks_76 rfl rfl ?_
            refine wa_bipush (v := 10) C 79 dX9_tryRanks_77 rfl rfl ?_
            refine wa_iload C 4 81 dX9_tryRanks_79 rfl rfl ?_
            refine wa_imul C 82 dX9_tryRanks_81 rfl ?_
            refine wa_iload C 5 84 dX9_tryRanks_82 rfl rfl ?_
            refine wa_iadd C 85 dX9_tryRanks_84 rfl ?_
            obtain ⟨y22, ey22, hf⟩ := bnd_ex hf
            refine wa_put (ws' := [wT dT a (a_d 0) (a_t 0) (a_k 0) y22, wD dT a_d (a_d_p 0) (a_d_k 0) q12.2.1, wR dT a_d_p q12.2.2.1, wR dT a_d_k q12.2.2.2.1, wV dT a_t q12.2.2.2.2, wK dT a_k z5, wV dT a0 z6, wS dT a1 z7]) C 88 0 0 4 tyX9 dX9_tryRanks_85 rfl iX9 tyX9_ok nmX9 q332 rfl (Nat.le_of_ble_eq_true rfl) rfl rfl rfl rfl rfl (Nat.le_of_ble_eq_true rfl) (by rw [ey22]; rfl) ?_
            exact w_X9_tryRanks_J88 C ih l5 y22 q12.2.1 q12.2.2.1 q12.2.2.2.1 q12.2.2.2.2 hf
set_option maxRecDepth 20000 in
theorem w_X9_tryRanks_L21 {p : Program} {l : Launch} {e : Env} {s : State} {m : MethodId} {args : Array Value} {below : List Frame} {meth : Method} {c : Code} {D : va_G} {A : Nat → Prop} {dT : Nat → ClassId} {a : Nat → Nat} {a_d : Nat → Nat} {a_d_p : Nat → Nat} {a_d_k : Nat → Nat} {a_t : Nat → Nat} {a_k : Nat → Nat} {a0 : Nat → Nat} {a1 : Nat → Nat} {res : Ob × Ob × Ob × Ob × Ob} {l3 : Int32} {z5 : Ob} {z6 : Ob} {z7 : Ob} (C : Cx p s m args meth c cX9_tryRanks 6 RX9 none D A dT) : ∀ (n : Nat) (l4 : Int32) (z0 : Ob) (z1 : Ob) (z2 : Ob) (z3 : Ob) (z4 : Ob), f_X9_tryRanks_L21 l3 z5 z6 z7 n l4 z0 z1 z2 z3 z4 = some res → WA p l e ({ frames := 7, cells := 0, slots := 0, locals := 153 } : Room) s m args below meth c (MQ below (QV D dT A ([wT dT a (a_d 0) (a_t 0) (a_k 0) res.1, wD dT a_d (a_d_p 0) (a_d_k 0) res.2.1, wR dT a_d_p res.2.2.1, wR dT a_d_k res.2.2.2.1, wV dT a_t res.2.2.2.2, wK dT a_k z5, wV dT a0 z6, wS dT a1 z7])) args s 0 0 A) D A 0 0 6 21 ([wT dT a (a_d 0) (a_t 0) (a_k 0) z0, wD dT a_d (a_d_p 0) (a_d_k 0) z1, wR dT a_d_p z2, wR dT a_d_k z3, wV dT a_t z4, wK dT a_k z5, wV dT a0 z6, wS dT a1 z7]) [(0, .ref (a 0)), (1, .ref (a0 0)), (2, .ref (a1 0)), (3, .int l3), (4, .int l4)] [] := by
  intro n
  induction n with
  | zero => intro l4 z0 z1 z2 z3 z4 hf; cases hf
  | succ n ih =>
    intro l4 z0 z1 z2 z3 z4 hf
    unfold f_X9_tryRanks_L21 at hf
    refine wa_iload C 4 23 dX9_tryRanks_21 rfl rfl ?_
    refine wa_aload_n C 1 24 dX9_tryRanks_23 rfl rfl ?_
    refine wa_get C 27 6 0 0 dX9_tryRanks_24 rfl iX10 q49 rfl (Nat.le_of_ble_eq_true rfl) rfl rfl rfl ?_
    refine wa_icmp_ge C 127 30 dX9_tryRanks_27 rfl rfl (fun c5 => ?_) (fun c5 => ?_)
    · replace hf := ite_t hf c5
      cases hf
      exact wa_vret C dX9_tryRanks_127 rfl
    · replace hf := ite_f hf c5
      refine wa_iconst (v := 0) C 31 dX9_tryRanks_30 rfl rfl ?_
      refine wa_istore (lv' := [(0, .ref (a 0)), (1, .ref (a0 0)), (2, .ref (a1 0)), (3, .int l3), (4, .int l4), (5, .int (0 : Int32))]) C [1, 2, 3, 4, 5, 0] 33 dX9_tryRanks_31 rfl (Nat.le_of_ble_eq_true rfl) rfl ?_
      exact w_X9_tryRanks_L33 C ih FUEL (0 : Int32) z0 z1 z2 z3 z4 hf
set_option maxRecDepth 20000 in
theorem c_X9_tryRanks {l : Launch} {D : va_G} {dT : Nat → ClassId} {a : Nat → Nat} {a_d : Nat → Nat} {a_d_p : Nat → Nat} {a_d_k : Nat → Nat} {a_t : Nat → Nat} {a_k : Nat → Nat} {a0 : Nat → Nat} {a1 : Nat → Nat} {v : Ob} {v_d : Ob} {v_d_p : Ob} {v_d_k : Ob} {v_t : Ob} {v_k : Ob} {v0 : Ob} {v1 : Ob} {p2 : Int32} {res : Ob × Ob × Ob × Ob × Ob} (hf : f_X9_tryRanks v v_d v_d_p v_d_k v_t v_k v0 v1 p2 = some res) : CTv l yX9_tryRanks cX9_tryRanks 6 none ({ frames := 7, cells := 0, slots := 0, locals := 153 } : Room) D dT [.ref (a 0), .ref (a0 0), .ref (a1 0), .int p2] ([wT dT a (a_d 0) (a_t 0) (a_k 0) v, wD dT a_d (a_d_p 0) (a_d_k 0) v_d, wR dT a_d_p v_d_p, wR dT a_d_k v_d_k, wV dT a_t v_t, wK dT a_k v_k, wV dT a0 v0, wS dT a1 v1]) ([wT dT a (a_d 0) (a_t 0) (a_k 0) res.1, wD dT a_d (a_d_p 0) (a_d_k 0) res.2.1, wR dT a_d_p res.2.2.1, wR dT a_d_k res.2.2.2.1, wV dT a_t res.2.2.2.2, wK dT a_k v_k, wV dT a0 v0, wS dT a1 v1]) := by
  refine CTv.of (by decide) (Nat.le_of_ble_eq_true rfl) rfl ?_
  intro p e s m args below meth c A C
  unfold f_X9_tryRanks at hf
  refine wa_aload_n C 0 1 dX9_tryRanks_0 rfl rfl ?_
  refine wa_iconst (v := 0) C 2 dX9_tryRanks_1 rfl rfl ?_
  obtain ⟨y1, ey1, hf⟩ := bnd_ex hf
  refine wa_put (ws' := [wT dT a (a_d 0) (a_t 0) (a_k 0) y1, wD dT a_d (a_d_p 0) (a_d_k 0) v_d, wR dT a_d_p v_d_p, wR dT a_d_k v_d_k, wV dT a_t v_t, wK dT a_k v_k, wV dT a0 v0, wS dT a1 v1]) C 5 0 0 3 tyX9 dX9_tryRanks_2 rfl iX9 tyX9_ok nmX9 q330 rfl (Nat.le_of_ble_eq_true rfl) rfl rfl rfl rfl rfl (Nat.le_of_ble_eq_true rfl) (by rw [ey1]; rfl) ?_
  refine wa_aload_n C 0 6 dX9_tryRanks_5 rfl rfl ?_
  refine wa_iconst (v := (-1)) C 7 dX9_tryRanks_6 rfl rfl ?_
  obtain ⟨y2, ey2, hf⟩ := bnd_ex hf
  refine wa_put (ws' := [wT dT a (a_d 0) (a_t 0) (a_k 0) y2, wD dT a_d (a_d_p 0) (a_d_k 0) v_d, wR dT a_d_p v_d_p, wR dT a_d_k v_d_k, wV dT a_t v_t, wK dT a_k v_k, wV dT a0 v0, wS dT a1 v1]) C 10 0 0 4 tyX9 dX9_tryRanks_7 rfl iX9 tyX9_ok nmX9 q332 rfl (Nat.le_of_ble_eq_true rfl) rfl rfl rfl rfl rfl (Nat.le_of_ble_eq_true rfl) (by rw [ey2]; rfl) ?_
  refine wa_aload_n C 0 11 dX9_tryRanks_10 rfl rfl ?_
  refine wa_get C 14 0 0 5 dX9_tryRanks_11 rfl iX9 q334 rfl (Nat.le_of_ble_eq_true rfl) rfl rfl rfl ?_
  refine wa_iconst (v := 0) C 15 dX9_tryRanks_14 rfl rfl ?_
  refine wa_open 0 1 rfl rfl ?_
  obtain ⟨q3, hq3, hf⟩ := bind_ex hf
  obtain ⟨y4, ey4, hf⟩ := bnd_ex hf
  refine wa_callSv (ws' := [(wT dT a (a_d 0) (a_t 0) (a_k 0) y2).eraseIdx 1, wD dT a_d (a_d_p 0) (a_d_k 0) v_d, wR dT a_d_p v_d_p, wR dT a_d_k v_d_k, wV dT a_t v_t, wK dT a_k v_k, wV dT a0 v0, wS dT a1 v1, [(a 1, .inl (dT 0, 12, .inl q3))]]) (As := [.ref (a 1), .int (0 : Int32)]) C 18 dX9_tryRanks_15 rfl ks_X9_117 (c_J7_fill_53178 hq3) ⟨rfl, rfl⟩ ⟨Nat.le_of_ble_eq_true rfl, Nat.le_of_ble_eq_true rfl⟩ [8] [0, 1, 2, 3, 4, 5, 6, 7] [0, 1, 2, 3, 4, 5, 6, 7, 8] rfl rfl rfl rfl (by decide) rfl rfl rfl rfl ⟨Nat.zero_le _, Nat.zero_le _⟩ (Nat.le_of_ble_eq_true rfl) ?_
  refine wa_close (ws := [(wT dT a (a_d 0) (a_t 0) (a_k 0) y2).eraseIdx 1, wD dT a_d (a_d_p 0) (a_d_k 0) v_d, wR dT a_d_p v_d_p, wR dT a_d_k v_d_k, wV dT a_t v_t, wK dT a_k v_k, wV dT a0 v0, wS dT a1 v1]) (ws' := [wT dT a (a_d 0) (a_t 0) (a_k 0) y4, wD dT a_d (a_d_p 0) (a_d_k 0) v_d, wR dT a_d_p v_d_p, wR dT a_d_k v_d_k, wV dT a_t v_t, wK dT a_k v_k, wV dT a0 v0, wS dT a1 v1]) 0 1 (wT dT a (a_d 0) (a_t 0) (a_k 0) y4) (by rw [ey4]; rfl) (by rw [ey4]; rfl) rfl ?_
  refine wa_iconst (v := 0) C 19 dX9_tryRanks_18 rfl rfl ?_
  refine wa_istore (lv' := [(0, .ref (a 0)), (1, .ref (a0 0)), (2, .ref (a1 0)), (3, .int p2), (4, .int (0 : Int32))]) C [1, 2, 3, 4, 0] 21 dX9_tryRanks_19 rfl (Nat.le_of_ble_eq_true rfl) rfl ?_
  exact w_X9_tryRanks_L21 C FUEL (0 : Int32) y4 v_d v_d_p v_d_k v_t hf
theorem ks_X9_136 : KS RX9 136 yJ6_bitCount_0f7a4 cJ6_bitCount_0f7a4 1 (some .int) 1 := KS.mk q1352 q962 q25 q963 ⟨by decide, by decide, by decide +kernel⟩
def f_X9_unlikeSizes (v : Ob) (v_d : Ob) (v_d_p : Ob) (v_d_k : Ob) (v_t : Ob) (v_k : Ob) (p0 : Int32) : Option (Int32) := grd (vi p0 12) ((f_J6_bitCount_0f7a4 (v.2 1 (p0).toNatClampNeg)).bind (fun q2 => some (q2)))
set_option maxRecDepth 20000 in
theorem c_X9_unlikeSizes {l : Launch} {D : va_G} {dT : Nat → ClassId} {a : Nat → Nat} {a_d : Nat → Nat} {a_d_p : Nat → Nat} {a_d_k : Nat → Nat} {a_t : Nat → Nat} {a_k : Nat → Nat} {v : Ob} {v_d : Ob} {v_d_p : Ob} {v_d_k : Ob} {v_t : Ob} {v_k : Ob} {p0 : Int32} {res : Int32} (hf : f_X9_unlikeSizes v v_d v_d_p v_d_k v_t v_k p0 = some res) : CTi l yX9_unlikeSizes cX9_unlikeSizes 2 (some .int) ({ frames := 1, cells := 0, slots := 0, locals := 20 } : Room) D dT [.ref (a 0), .int p0] ([wT dT a (a_d 0) (a_t 0) (a_k 0) v, wD dT a_d (a_d_p 0) (a_d_k 0) v_d, wR dT a_d_p v_d_p, wR dT a_d_k v_d_k, wV dT a_t v_t, wK dT a_k v_k]) ([wT dT a (a_d 0) (a_t 0) (a_k 0) v, wD dT a_d (a_d_p 0) (a_d_k 0) v_d, wR dT a_d_p v_d_p, wR dT a_d_k v_d_k, wV dT a_t v_t, wK dT a_k v_k]) res := by
  refine CTi.of (by decide) (Nat.le_of_ble_eq_true rfl) rfl ?_
  intro p e s m args below meth c A C
  unfold f_X9_unlikeSizes at hf
  refine wa_aload_n C 0 1 dX9_unlikeSizes_0 rfl rfl ?_
  refine wa_get C 4 0 0 5 dX9_unlikeSizes_1 rfl iX9 q334 rfl (Nat.le_of_ble_eq_true rfl) rfl rfl rfl ?_
  refine wa_iload_n C 1 5 dX9_unlikeSizes_4 rfl rfl ?_
  obtain ⟨g1, hf⟩ := grd_ex hf
  refine wa_iald C 6 0 1 dX9_unlikeSizes_5 rfl rfl rfl (vi_in g1) ?_
  obtain ⟨q2, hq2, hf⟩ := bind_ex hf
  refine wa_callS0i (As := [.int (v.2 1 (p0).toNatClampNeg)]) C 9 dX9_unlikeSizes_6 rfl ks_X9_136 (c_J6_bitCount_0f7a4 hq2) ⟨rfl, rfl⟩ ⟨Nat.le_of_ble_eq_true rfl, Nat.le_of_ble_eq_true rfl⟩ rfl rfl ⟨Nat.zero_le _, Nat.zero_le _⟩ (Nat.le_of_ble_eq_true rfl) ?_
  cases hf
  exact wa_iret C dX9_unlikeSizes_9 rfl rfl
theorem kv_X9_141 : KV RX9 141 yX9_unlikeSizes cX9_unlikeSizes 2 (some .int) 1 := KV.mk q1348 q1349 q1350 q12 q1351 ⟨by decide, by decide, by decide +kernel⟩
def f_X9_mostUnlike_L7 (l1 : Int32) (z0 : Ob) (z1 : Ob) (z2 : Ob) (z3 : Ob) (z4 : Ob) (z5 : Ob) : Nat → Int32 → Int32 → Int32 → Option (Int32)
  | 0, _, _, _ => none
  | n + 1, l2, l3, l4 => (if l1 ≤ l4 then some (l2) else (f_X9_unlikeSizes z0 z1 z2 z3 z4 z5 l4).bind (fun q2 => (if q2 ≤ l3 then bnd (l4 + 1) (fun x4 => f_X9_mostUnlike_L7 l1 z0 z1 z2 z3 z4 z5 n l2 l3 x4) else (f_X9_unlikeSizes z0 z1 z2 z3 z4 z5 l4).bind (fun q5 => bnd (l4 + 1) (fun x6 => f_X9_mostUnlike_L7 l1 z0 z1 z2 z3 z4 z5 n l4 q5 x6)))))
def f_X9_mostUnlike (v : Ob) (v_d : Ob) (v_d_p : Ob) (v_d_k : Ob) (v_t : Ob) (v_k : Ob) (p0 : Int32) : Option (Int32) := f_X9_mostUnlike_L7 p0 v v_d v_d_p v_d_k v_t v_k FUEL (-1 : Int32) (0 : Int32) (0 : Int32)
set_option maxRecDepth 20000 in
theorem w_X9_mostUnlike_L7 {p : Program} {l : Launch} {e : Env} {s : State} {m : MethodId} {args : Array Value} {below : List Frame} {meth : Method} {c : Code} {D : va_G} {A : Nat → Prop} {dT : Nat → ClassId} {a : Nat → Nat} {a_d : Nat → Nat} {a_d_p : Nat → Nat} {a_d_k : Nat → Nat} {a_t : Nat → Nat} {a_k : Nat → Nat} {res : Int32} {l1 : Int32} {z0 : Ob} {z1 : Ob} {z2 : Ob} {z3 : Ob} {z4 : Ob} {z5 : Ob} (C : Cx p s m args meth c cX9_mostUnlike 5 RX9 (some .int) D A dT) : ∀ (n : Nat) (l2 : Int32) (l3 : Int32) (l4 : Int32), f_X9_mostUnlike_L7 l1 z0 z1 z2 z3 z4 z5 n l2 l3 l4 = some res → WA p l e ({ frames := 2, cells := 0, slots := 0, locals := 41 } : Room) s m args below meth c (MQ below (QI D dT A ([wT dT a (a_d 0) (a_t 0) (a_k 0) z0, wD dT a_d (a_d_p 0) (a_d_k 0) z1, wR dT a_d_p z2, wR dT a_d_k z3, wV dT a_t z4, wK dT a_k z5]) res) args s 0 0 A) D A 0 0 5 7 ([wT dT a (a_d 0) (a_t 0) (a_k 0) z0, wD dT a_d (a_d_p 0) (a_d_k 0) z1, wR dT a_d_p z2, wR dT a_d_k z3, wV dT a_t z4, wK dT a_k z5]) [(0, .ref (a 0)), (1, .int l1), (2, .int l2), (3, .int l3), (4, .int l4)] [] := by
  intro n
  induction n with
  | zero => intro l2 l3 l4 hf; cases hf
  | succ n ih =>
    intro l2 l3 l4 hf
    unfold f_X9_mostUnlike_L7 at hf
    refine wa_iload C 4 9 dX9_mostUnlike_7 rfl rfl ?_
    refine wa_iload_n C 1 10 dX9_mostUnlike_9 rfl rfl ?_
    refine wa_icmp_ge C 39 13 dX9_mostUnlike_10 rfl rfl (fun c1 => ?_) (fun c1 => ?_)
    · replace hf := ite_t hf c1
      refine wa_iload_n C 2 40 dX9_mostUnlike_39 rfl rfl ?_
      cases hf
      exact wa_iret C dX9_mostUnlike_40 rfl rfl
    · replace hf := ite_f hf c1
      refine wa_aload_n C 0 14 dX9_mostUnlike_13 rfl rfl ?_
      refine wa_iload C 4 16 dX9_mostUnlike_14 rfl rfl ?_
      obtain ⟨q2, hq2, hf⟩ := bind_ex hf
      refine wa_callVAi (b1 := 0) (q1 := 0) (ci := 9) (As := [.int l4]) C 19 dX9_mostUnlike_16 rfl kv_X9_141 (c_X9_unlikeSizes hq2) ⟨rfl, rfl⟩ ⟨Nat.le_of_ble_eq_true rfl, Nat.le_of_ble_eq_true rfl⟩ rfl rfl rfl rfl rfl ⟨Nat.zero_le _, Nat.zero_le _⟩ (Nat.le_of_ble_eq_true rfl) ?_
      refine wa_iload_n C 3 20 dX9_mostUnlike_19 rfl rfl ?_
      refine wa_icmp_le C 33 23 dX9_mostUnlike_20 rfl rfl (fun c3 => ?_) (fun c3 => ?_)
      · replace hf := ite_t hf c3
        obtain ⟨x4, ex4, hf⟩ := bnd_ex hf
        refine wa_iinc (v := x4) (lv' := [(0, .ref (a 0)), (1, .int l1), (2, .int l2), (3, .int l3), (4, .int x4)]) C 4 [1, 2, 3, 4, 0] 36 dX9_mostUnlike_33 rfl rfl (by rw [ex4]; rfl) (Nat.le_of_ble_eq_true rfl) rfl ?_
        refine wa_goto C 7 dX9_mostUnlike_36 rfl ?_
        exact ih l2 l3 x4 hf
      · replace hf := ite_f hf c3
        refine wa_iload C 4 25 dX9_mostUnlike_23 rfl rfl ?_
        refine wa_istore_n (lv' := [(0, .ref (a 0)), (1, .int l1), (2, .int l4), (3, .int l3), (4, .int l4)]) C [1, 2, 0, 3, 4] 26 dX9_mostUnlike_25 rfl (Nat.le_of_ble_eq_true rfl) rfl ?_
        refine wa_aload_n C 0 27 dX9_mostUnlike_26 rfl rfl ?_
        refine wa_iload C 4 29 dX9_mostUnlike_27 rfl rfl ?_
        obtain ⟨q5, hq5, hf⟩ := bind_ex hf
        refine wa_callVAi (b1 := 0) (q1 := 0) (ci := 9) (As := [.int l4]) C 32 dX9_mostUnlike_29 rfl kv_X9_141 (c_X9_unlikeSizes hq5) ⟨rfl, rfl⟩ ⟨Nat.le_of_ble_eq_true rfl, Nat.le_of_ble_eq_true rfl⟩ rfl rfl rfl rfl rfl ⟨Nat.zero_le _, Nat.zero_le _⟩ (Nat.le_of_ble_eq_true rfl) ?_
        refine wa_istore_n (lv' := [(0, .ref (a 0)), (1, .int l1), (2, .int l4), (3, .int q5), (4, .int l4)]) C [1, 2, 3, 0, 4] 33 dX9_mostUnlike_32 rfl (Nat.le_of_ble_eq_true rfl) rfl ?_
        obtain ⟨x6, ex6, hf⟩ := bnd_ex hf
        refine wa_iinc (v := x6) (lv' := [(0, .ref (a 0)), (1, .int l1), (2, .int l4), (3, .int q5), (4, .int x6)]) C 4 [1, 2, 3, 4, 0] 36 dX9_mostUnlike_33 rfl rfl (by rw [ex6]; rfl) (Nat.le_of_ble_eq_true rfl) rfl ?_
        refine wa_goto C 7 dX9_mostUnlike_36 rfl ?_
        exact ih l4 q5 x6 hf
set_option maxRecDepth 20000 in
theorem c_X9_mostUnlike {l : Launch} {D : va_G} {dT : Nat → ClassId} {a : Nat → Nat} {a_d : Nat → Nat} {a_d_p : Nat → Nat} {a_d_k : Nat → Nat} {a_t : Nat → Nat} {a_k : Nat → Nat} {v : Ob} {v_d : Ob} {v_d_p : Ob} {v_d_k : Ob} {v_t : Ob} {v_k : Ob} {p0 : Int32} {res : Int32} (hf : f_X9_mostUnlike v v_d v_d_p v_d_k v_t v_k p0 = some res) : CTi l yX9_mostUnlike cX9_mostUnlike 5 (some .int) ({ frames := 2, cells := 0, slots := 0, locals := 41 } : Room) D dT [.ref (a 0), .int p0] ([wT dT a (a_d 0) (a_t 0) (a_k 0) v, wD dT a_d (a_d_p 0) (a_d_k 0) v_d, wR dT a_d_p v_d_p, wR dT a_d_k v_d_k, wV dT a_t v_t, wK dT a_k v_k]) ([wT dT a (a_d 0) (a_t 0) (a_k 0) v, wD dT a_d (a_d_p 0) (a_d_k 0) v_d, wR dT a_d_p v_d_p, wR dT a_d_k v_d_k, wV dT a_t v_t, wK dT a_k v_k]) res := by
  refine CTi.of (by decide) (Nat.le_of_ble_eq_true rfl) rfl ?_
  intro p e s m args below meth c A C
  unfold f_X9_mostUnlike at hf
  refine wa_iconst (v := (-1)) C 1 dX9_mostUnlike_0 rfl rfl ?_
  refine wa_istore_n (lv' := [(0, .ref (a 0)), (1, .int p0), (2, .int (-1 : Int32))]) C [1, 2, 0] 2 dX9_mostUnlike_1 rfl (Nat.le_of_ble_eq_true rfl) rfl ?_
  refine wa_iconst (v := 0) C 3 dX9_mostUnlike_2 rfl rfl ?_
  refine wa_istore_n (lv' := [(0, .ref (a 0)), (1, .int p0), (2, .int (-1 : Int32)), (3, .int (0 : Int32))]) C [1, 2, 3, 0] 4 dX9_mostUnlike_3 rfl (Nat.le_of_ble_eq_true rfl) rfl ?_
  refine wa_iconst (v := 0) C 5 dX9_mostUnlike_4 rfl rfl ?_
  refine wa_istore (lv' := [(0, .ref (a 0)), (1, .int p0), (2, .int (-1 : Int32)), (3, .int (0 : Int32)), (4, .int (0 : Int32))]) C [1, 2, 3, 4, 0] 7 dX9_mostUnlike_5 rfl (Nat.le_of_ble_eq_true rfl) rfl ?_
  exact w_X9_mostUnlike_L7 C FUEL (-1 : Int32) (0 : Int32) (0 : Int32) hf
def f_X9_byStorms_J103 (k6 : Int32 → Int32 → Ob → Ob → Ob → Ob → Option (Int32 × Ob × Ob × Ob × Ob)) (l2 : Int32) (l3 : Int32) (l4 : Int32) (l5 : Int32) (z0 : Ob) (z5 : Ob) (z6 : Ob) (l6 : Int32) (l7 : Int32) (l8 : Int32) (z1 : Ob) (z2 : Ob) (z3 : Ob) (z4 : Ob) : Option (Int32 × Ob × Ob × Ob × Ob) := (f_X10_inOne z4 l2 l3).bind (fun q4 => (if q4 = 0 then bnd (l7 + 1) (fun x6 => k6 l6 x6 z1 z2 z3 z4) else bnd (l6 + l8) (fun x7 => bnd (l7 + 1) (fun x8 => k6 x7 x8 z1 z2 z3 z4))))
def f_X9_byStorms_L29 (k6 : Int32 → Int32 → Ob → Ob → Ob → Ob → Option (Int32 × Ob × Ob × Ob × Ob)) (l2 : Int32) (l3 : Int32) (l4 : Int32) (l5 : Int32) (l6 : Int32) (l7 : Int32) (z0 : Ob) (z5 : Ob) (z6 : Ob) : Nat → Int32 → Int32 → Ob → Ob → Ob → Ob → Option (Int32 × Ob × Ob × Ob × Ob)
  | 0, _, _, _, _, _, _ => none
  | n + 1, l8, l9, z1, z2, z3, z4 => (if l4 ≤ l9 then f_X9_byStorms_J103 (k6) l2 l3 l4 l5 z0 z5 z6 l6 l7 l8 z1 z2 z3 z4 else (if l8 ≤ 0 then f_X9_byStorms_J103 (k6) l2 l3 l4 l5 z0 z5 z6 l6 l7 l8 z1 z2 z3 z4 else (if ((l7 >>> (l9 &&& 31)) &&& (1 : Int32)) = 0 then bnd (l8 * ((10 : Int32) - l5)) (fun x11 => (f_X2_pass z1 z2 z3 z4 (0 : Int32)).bind (fun q12 => bnd (l9 + 1) (fun x13 => f_X9_byStorms_L29 k6 l2 l3 l4 l5 l6 l7 z0 z5 z6 n x11 x13 q12.2.1 q12.2.2.1 q12.2.2.2.1 q12.2.2.2.2))) else bnd (l8 * l5) (fun x14 => bnd (upd z4.1 2 ((z4.1 2) + (1 : Int32)), z4.2) (fun y15 => bnd (l9 + 1) (fun x16 => f_X9_byStorms_L29 k6 l2 l3 l4 l5 l6 l7 z0 z5 z6 n x14 x16 z1 z2 z3 y15))))))
def f_X9_byStorms_L6 (l2 : Int32) (l3 : Int32) (l4 : Int32) (l5 : Int32) (z0 : Ob) (z5 : Ob) (z6 : Ob) : Nat → Int32 → Int32 → Ob → Ob → Ob → Ob → Option (Int32 × Ob × Ob × Ob × Ob)
  | 0, _, _, _, _, _, _ => none
  | n + 1, l6, l7, z1, z2, z3, z4 => (if ((1 : Int32) <<< (l4 &&& 31)) ≤ l7 then some (l6, z1, z2, z3, z4) else (f_X10_copyFrom z4 z6).bind (fun q2 => f_X9_byStorms_L29 (f_X9_byStorms_L6 l2 l3 l4 l5 z0 z5 z6 n) l2 l3 l4 l5 l6 l7 z0 z5 z6 FUEL (1 : Int32) (0 : Int32) z1 z2 z3 q2))
def f_X9_byStorms (v : Ob) (v_d : Ob) (v_d_p : Ob) (v_d_k : Ob) (v_t : Ob) (v_k : Ob) (v0 : Ob) (p1 : Int32) (p2 : Int32) (p3 : Int32) (p4 : Int32) : Option (Int32 × Ob × Ob × Ob × Ob) := f_X9_byStorms_L6 p1 p2 p3 p4 v v_k v0 FUEL (0 : Int32) (0 : Int32) v_d v_d_p v_d_k v_t
set_option maxRecDepth 20000 in
theorem w_X9_byStorms_J103 {p : Program} {l : Launch} {e : Env} {s : State} {m : MethodId} {args : Array Value} {below : List Frame} {meth : Method} {c : Code} {D : va_G} {A : Nat → Prop} {dT : Nat → ClassId} {a : Nat → Nat} {a_d : Nat → Nat} {a_d_p : Nat → Nat} {a_d_k : Nat → Nat} {a_t : Nat → Nat} {a_k : Nat → Nat} {a0 : Nat → Nat} {res : Int32 × Ob × Ob × Ob × Ob} {l2 : Int32} {l3 : Int32} {l4 : Int32} {l5 : Int32} {z0 : Ob} {z5 : Ob} {z6 : Ob} (C : Cx p s m args meth c cX9_byStorms 10 RX9 (some .int) D A dT) {k6 : Int32 → Int32 → Ob → Ob → Ob → Ob → Option (Int32 × Ob × Ob × Ob × Ob)} (hk6 : ∀ (l6 : Int32) (l7 : Int32) (z1 : Ob) (z2 : Ob) (z3 : Ob) (z4 : Ob), k6 l6 l7 z1 z2 z3 z4 = some res → WA p l e ({ frames := 6, cells := 0, slots := 0, locals := 130 } : Room) s m args below meth c (MQ below (QI D dT A ([wT dT a (a_d 0) (a_t 0) (a_k 0) z0, wD dT a_d (a_d_p 0) (a_d_k 0) res.2.1, wR dT a_d_p res.2.2.1, wR dT a_d_k res.2.2.2.1, wV dT a_t res.2.2.2.2, wK dT a_k z5, wV dT a0 z6]) res.1) args s 0 0 A) D A 0 0 10 6 ([wT dT a (a_d 0) (a_t 0) (a_k 0) z0, wD dT a_d (a_d_p 0) (a_d_k 0) z1, wR dT a_d_p z2, wR dT a_d_k z3, wV dT a_t z4, wK dT a_k z5, wV dT a0 z6]) [(0, .ref (a 0)), (1, .ref (a0 0)), (2, .int l2), (3, .int l3), (4, .int l4), (5, .int l5), (6, .int l6), (7, .int l7)] []) : ∀ (l6 : Int32) (l7 : Int32) (l8 : Int32) (z1 : Ob) (z2 : Ob) (z3 : Ob) (z4 : Ob), f_X9_byStorms_J103 k6 l2 l3 l4 l5 z0 z5 z6 l6 l7 l8 z1 z2 z3 z4 = some res → WA p l e ({ frames := 6, cells := 0, slots := 0, locals := 130 } : Room) s m args below meth c (MQ below (QI D dT A ([wT dT a (a_d 0) (a_t 0) (a_k 0) z0, wD dT a_d (a_d_p 0) (a_d_k 0) res.2.1, wR dT a_d_p res.2.2.1, wR dT a_d_k res.2.2.2.1, wV dT a_t res.2.2.2.2, wK dT a_k z5, wV dT a0 z6]) res.1) args s 0 0 A) D A 0 0 10 103 ([wT dT a (a_d 0) (a_t 0) (a_k 0) z0, wD dT a_d (a_d_p 0) (a_d_k 0) z1, wR dT a_d_p z2, wR dT a_d_k z3, wV dT a_t z4, wK dT a_k z5, wV dT a0 z6]) [(0, .ref (a 0)), (1, .ref (a0 0)), (2, .int l2), (3, .int l3), (4, .int l4), (5, .int l5), (6, .int l6), (7, .int l7), (8, .int l8)] [] := by
  intro l6 l7 l8 z1 z2 z3 z4 hf
  unfold f_X9_byStorms_J103 at hf
  refine wa_aload_n C 0 104 dX9_byStorms_103 rfl rfl ?_
  refine wa_get C 107 0 0 1 dX9_byStorms_104 rfl iX9 q328 rfl (Nat.le_of_ble_eq_true rfl) rfl rfl rfl ?_
  refine wa_iload_n C 2 108 dX9_byStorms_107 rfl rfl ?_
  refine wa_iload_n C 3 109 dX9_byStorms_108 rfl rfl ?_
  obtain ⟨q4, hq4, hf⟩ := bind_ex hf
  refine wa_callVi (b1 := 4) (q1 := 0) (ci := 10) (ws' := [wT dT a (a_d 0) (a_t 0) (a_k 0) z0, wD dT a_d (a_d_p 0) (a_d_k 0) z1, wR dT a_d_p z2, wR dT a_d_k z3, wV dT a_t z4, wK dT a_k z5, wV dT a0 z6]) (As := [.int l2, .int l3]) C 112 dX9_byStorms_109 rfl kv_X9_76 (c_X10_inOne hq4) ⟨rfl, rfl⟩ ⟨Nat.le_of_ble_eq_true rfl, Nat.le_of_ble_eq_true rfl⟩ rfl rfl rfl [4] [0, 1, 2, 3, 5, 6] [0, 1, 2, 3, 6, 4, 5] rfl rfl rfl rfl (by decide) rfl rfl rfl rfl ⟨Nat.zero_le _, Nat.zero_le _⟩ (Nat.le_of_ble_eq_true rfl) ?_
  refine wa_if_eq C 122 115 dX9_byStorms_112 rfl rfl (fun c5 => ?_) (fun c5 => ?_)
  · replace hf := ite_t hf c5
    obtain ⟨x6, ex6, hf⟩ := bnd_ex hf
    refine wa_iinc (v := x6) (lv' := [(0, .ref (a 0)), (1, .ref (a0 0)), (2, .int l2), (3, .int l3), (4, .int l4), (5, .int l5), (6, .int l6), (7, .int x6), (8, .int l8)]) C 7 [1, 2, 3, 4, 5, 6, 7, 0, 8] 125 dX9_byStorms_122 rfl rfl (by rw [ex6]; rfl) (Nat.le_of_ble_eq_true rfl) rfl ?_
    refine wa_goto C 6 dX9_byStorms_125 rfl ?_
    refine wa_lv (lv' := [(0, .ref (a 0)), (1, .ref (a0 0)), (2, .int l2), (3, .int l3), (4, .int l4), (5, .int l5), (6, .int l6), (7, .int x6)]) [0, 1, 2, 3, 4, 5, 6, 7] rfl ?_
    exact hk6 l6 x6 z1 z2 z3 z4 hf
  · replace hf := ite_f hf c5
    refine wa_iload C 6 117 dX9_byStorms_115 rfl rfl ?_
    refine wa_iload C 8 119 dX9_byStorms_117 rfl rfl ?_
    refine wa_iadd C 120 dX9_byStorms_119 rfl ?_
    obtain ⟨x7, ex7, hf⟩ := bnd_ex hf
    refine wa_topi ex7 ?_
    refine wa_istore (lv' := [(0, .ref (a 0)), (1, .ref (a0 0)), (2, .int l2), (3, .int l3), (4, .int l4), (5, .int l5), (6, .int x7), (7, .int l7), (8, .int l8)]) C [1, 2, 3, 4, 5, 6, 0, 7, 8] 122 dX9_byStorms_120 rfl (Nat.le_of_ble_eq_true rfl) rfl ?_
    obtain ⟨x8, ex8, hf⟩ := bnd_ex hf
    refine wa_iinc (v := x8) (lv' := [(0, .ref (a 0)), (1, .ref (a0 0)), (2, .int l2), (3, .int l3), (4, .int l4), (5, .int l5), (6, .int x7), (7, .int x8), (8, .int l8)]) C 7 [1, 2, 3, 4, 5, 6, 7, 0, 8] 125 dX9_byStorms_122 rfl rfl (by rw [ex8]; rfl) (Nat.le_of_ble_eq_true rfl) rfl ?_
    refine wa_goto C 6 dX9_byStorms_125 rfl ?_
    refine wa_lv (lv' := [(0, .ref (a 0)), (1, .ref (a0 0)), (2, .int l2), (3, .int l3), (4, .int l4), (5, .int l5), (6, .int x7), (7, .int x8)]) [0, 1, 2, 3, 4, 5, 6, 7] rfl ?_
    exact hk6 x7 x8 z1 z2 z3 z4 hf
set_option maxRecDepth 20000 in
theorem w_X9_byStorms_L29 {p : Program} {l : Launch} {e : Env} {s : State} {m : MethodId} {args : Array Value} {below : List Frame} {meth : Method} {c : Code} {D : va_G} {A : Nat → Prop} {dT : Nat → ClassId} {a : Nat → Nat} {a_d : Nat → Nat} {a_d_p : Nat → Nat} {a_d_k : Nat → Nat} {a_t : Nat → Nat} {a_k : Nat → Nat} {a0 : Nat → Nat} {res : Int32 × Ob × Ob × Ob × Ob} {l2 : Int32} {l3 : Int32} {l4 : Int32} {l5 : Int32} {l6 : Int32} {l7 : Int32} {z0 : Ob} {z5 : Ob} {z6 : Ob} (C : Cx p s m args meth c cX9_byStorms 10 RX9 (some .int) D A dT) {k6 : Int32 → Int32 → Ob → Ob → Ob → Ob → Option (Int32 × Ob × Ob × Ob × Ob)} (hk6 : ∀ (l6 : Int32) (l7 : Int32) (z1 : Ob) (z2 : Ob) (z3 : Ob) (z4 : Ob), k6 l6 l7 z1 z2 z3 z4 = some res → WA p l e ({ frames := 6, cells := 0, slots := 0, locals := 130 } : Room) s m args below meth c (MQ below (QI D dT A ([wT dT a (a_d 0) (a_t 0) (a_k 0) z0, wD dT a_d (a_d_p 0) (a_d_k 0) res.2.1, wR dT a_d_p res.2.2.1, wR dT a_d_k res.2.2.2.1, wV dT a_t res.2.2.2.2, wK dT a_k z5, wV dT a0 z6]) res.1) args s 0 0 A) D A 0 0 10 6 ([wT dT a (a_d 0) (a_t 0) (a_k 0) z0, wD dT a_d (a_d_p 0) (a_d_k 0) z1, wR dT a_d_p z2, wR dT a_d_k z3, wV dT a_t z4, wK dT a_k z5, wV dT a0 z6]) [(0, .ref (a 0)), (1, .ref (a0 0)), (2, .int l2), (3, .int l3), (4, .int l4), (5, .int l5), (6, .int l6), (7, .int l7)] []) : ∀ (n : Nat) (l8 : Int32) (l9 : Int32) (z1 : Ob) (z2 : Ob) (z3 : Ob) (z4 : Ob), f_X9_byStorms_L29 k6 l2 l3 l4 l5 l6 l7 z0 z5 z6 n l8 l9 z1 z2 z3 z4 = some res → WA p l e ({ frames := 6, cells := 0, slots := 0, locals := 130 } : Room) s m args below meth c (MQ below (QI D dT A ([wT dT a (a_d 0) (a_t 0) (a_k 0) z0, wD dT a_d (a_d_p 0) (a_d_k 0) res.2.1, wR dT a_d_p res.2.2.1, wR dT a_d_k res.2.2.2.1, wV dT a_t res.2.2.2.2, wK dT a_k z5, wV dT a0 z6]) res.1) args s 0 0 A) D A 0 0 10 29 ([wT dT a (a_d 0) (a_t 0) (a_k 0) z0, wD dT a_d (a_d_p 0) (a_d_k 0) z1, wR dT a_d_p z2, wR dT a_d_k z3, wV dT a_t z4, wK dT a_k z5, wV dT a0 z6]) [(0, .ref (a 0)), (1, .ref (a0 0)), (2, .int l2), (3, .int l3), (4, .int l4), (5, .int l5), (6, .int l6), (7, .int l7), (8, .int l8), (9, .int l9)] [] := by
  intro n
  induction n with
  | zero => intro l8 l9 z1 z2 z3 z4 hf; cases hf
  | succ n ih =>
    intro l8 l9 z1 z2 z3 z4 hf
    unfold f_X9_byStorms_L29 at hf
    refine wa_iload C 9 31 dX9_byStorms_29 rfl rfl ?_
    refine wa_iload C 4 33 dX9_byStorms_31 rfl rfl ?_
    refine wa_icmp_ge C 103 36 dX9_byStorms_33 rfl rfl (fun c3 => ?_) (fun c3 => ?_)
    · replace hf := ite_t hf c3
      refine wa_lv (lv' := [(0, .ref (a 0)), (1, .ref (a0 0)), (2, .int l2), (3, .int l3), (4, .int l4), (5, .int l5), (6, .int l6), (7, .int l7), (8, .int l8)]) [0, 1, 2, 3, 4, 5, 6, 7, 8] rfl ?_
      exact w_X9_byStorms_J103 C hk6 l6 l7 l8 z1 z2 z3 z4 hf
    · replace hf := ite_f hf c3
      refine wa_iload C 8 38 dX9_byStorms_36 rfl rfl ?_
      refine wa_if_le C 103 41 dX9_byStorms_38 rfl rfl (fun c9 => ?_) (fun c9 => ?_)
      · replace hf := ite_t hf c9
        refine wa_lv (lv' := [(0, .ref (a 0)), (1, .ref (a0 0)), (2, .int l2), (3, .int l3), (4, .int l4), (5, .int l5), (6, .int l6), (7, .int l7), (8, .int l8)]) [0, 1, 2, 3, 4, 5, 6, 7, 8] rfl ?_
        exact w_X9_byStorms_J103 C hk6 l6 l7 l8 z1 z2 z3 z4 hf
      · replace hf := ite_f hf c9
        refine wa_iload C 7 43 dX9_byStorms_41 rfl rfl ?_
        refine wa_iload C 9 45 dX9_byStorms_43 rfl rfl ?_
        refine wa_ishr C 46 dX9_byStorms_45 rfl ?_
        refine wa_iconst (v := 1) C 47 dX9_byStorms_46 rfl rfl ?_
        refine wa_iand C 48 dX9_byStorms_47 rfl ?_
        refine wa_if_eq C 74 51 dX9_byStorms_48 rfl rfl (fun c10 => ?_) (fun c10 => ?_)
        · replace hf := ite_t hf c10
          refine wa_iload C 8 76 dX9_byStorms_74 rfl rfl ?_
          refine wa_bipush (v := 10) C 78 dX9_byStorms_76 rfl rfl ?_
          refine wa_iload C 5 80 dX9_byStorms_78 rfl rfl ?_
          refine wa_isub C 81 dX9_byStorms_80 rfl ?_
          refine wa_imul C 82 dX9_byStorms_81 rfl ?_
          obtain ⟨x11, ex11, hf⟩ := bnd_ex hf
          refine wa_topi ex11 ?_
          refine wa_istore (lv' := [(0, .ref (a 0)), (1, .ref (a0 0)), (2, .int l2), (3, .int l3), (4, .int l4), (5, .int l5), (6, .int l6), (7, .int l7), (8, .int x11), (9, .int l9)]) C [1, 2, 3, 4, 5, 6, 7, 8, 0, 9] 84 dX9_byStorms_82 rfl (Nat.le_of_ble_eq_true rfl) rfl ?_
          refine wa_aload_n C 0 85 dX9_byStorms_84 rfl rfl ?_
          refine wa_get C 88 0 0 0 dX9_byStorms_85 rfl iX9 q327 rfl (Nat.le_of_ble_eq_true rfl) rfl rfl rfl ?_
          refine wa_aload_n C 0 89 dX9_byStorms_88 rfl rfl ?_
          refine wa_get C 92 0 0 1 dX9_byStorms_89 rfl iX9 q328 rfl (Nat.le_of_ble_eq_true rfl) rfl rfl rfl ?_
          refine wa_iconst (v := 0) C 93 dX9_byStorms_92 rfl rfl ?_
          obtain ⟨q12, hq12, hf⟩ := bind_ex hf
          refine wa_callVi (b1 := 1) (q1 := 0) (ci := 2) (ws' := [wT dT a (a_d 0) (a_t 0) (a_k 0) z0, wD dT a_d (a_d_p 0) (a_d_k 0) q12.2.1, wR dT a_d_p q12.2.2.1, wR dT a_d_k q12.2.2.2.1, wV dT a_t q12.2.2.2.2, wK dT a_k z5, wV dT a0 z6]) (As := [.ref (a_t 0), .int (0 : Int32)]) C 96 dX9_byStorms_93 rfl kv_X9_80 (c_X2_pass hq12) ⟨rfl, rfl⟩ ⟨Nat.le_of_ble_eq_true rfl, Nat.le_of_ble_eq_true rfl⟩ rfl rfl rfl [1, 2, 3, 4] [0, 5, 6] [0, 3, 4, 5, 6, 1, 2] rfl rfl rfl rfl (by decide) rfl rfl rfl rfl ⟨Nat.zero_le _, Nat.zero_le _⟩ (Nat.le_of_ble_eq_true rfl) ?_
          refine wa_pop C 97 dX9_byStorms_96 rfl rfl ?_
          obtain ⟨x13, ex13, hf⟩ := bnd_ex hf
          refine wa_iinc (v := x13) (lv' := [(0, .ref (a 0)), (1, .ref (a0 0)), (2, .int l2), (3, .int l3), (4, .int l4), (5, .int l5), (6, .int l6), (7, .int l7), (8, .int x11), (9, .int x13)]) C 9 [1, 2, 3, 4, 5, 6, 7, 8, 9, 0] 100 dX9_byStorms_97 rfl rfl (by rw [ex13]; rfl) (Nat.le_of_ble_eq_true rfl) rfl ?_
          refine wa_goto C 29 dX9_byStorms_100 rfl ?_
          exact ih x11 x13 q12.2.1 q12.2.2.1 q12.2.2.2.1 q12.2.2.2.2 hf
        · replace hf := ite_f hf c10
          refine wa_iload C 8 53 dX9_byStorms_51 rfl rfl ?_
          refine wa_iload C 5 55 dX9_byStorms_53 rfl rfl ?_
          refine wa_imul C 56 dX9_byStorms_55 rfl ?_
          obtain ⟨x14, ex14, hf⟩ := bnd_ex hf
          refine wa_topi ex14 ?_
          refine wa_istore (lv' := [(0, .ref (a 0)), (1, .ref (a0 0)), (2, .int l2), (3, .int l3), (4, .int l4), (5, .int l5), (6, .int l6), (7, .int l7), (8, .int x14), (9, .int l9)]) C [1, 2, 3, 4, 5, 6, 7, 8, 0, 9] 58 dX9_byStorms_56 rfl (Nat.le_of_ble_eq_true rfl) rfl ?_
          refine wa_aload_n C 0 59 dX9_byStorms_58 rfl rfl ?_
          refine wa_get C 62 0 0 1 dX9_byStorms_59 rfl iX9 q328 rfl (Nat.le_of_ble_eq_true rfl) rfl rfl rfl ?_
          refine wa_dup C 63 dX9_byStorms_62 rfl rfl ?_
          refine wa_get C 66 4 0 2 dX9_byStorms_63 rfl iX10 q64 rfl (Nat.le_of_ble_eq_true rfl) rfl rfl rfl ?_
          refine wa_iconst (v := 1) C 67 dX9_byStorms_66 rfl rfl ?_
          refine wa_iadd C 68 dX9_byStorms_67 rfl ?_
          obtain ⟨y15, ey15, hf⟩ := bnd_ex hf
          refine wa_put (ws' := [wT dT a (a_d 0) (a_t 0) (a_k 0) z0, wD dT a_d (a_d_p 0) (a_d_k 0) z1, wR dT a_d_p z2, wR dT a_d_k z3, wV dT a_t y15, wK dT a_k z5, wV dT a0 z6]) C 71 4 0 2 tyX10 dX9_byStorms_68 rfl iX10 tyX10_ok nmX10 q64 rfl (Nat.le_of_ble_eq_true rfl) rfl rfl rfl rfl rfl (Nat.le_of_ble_eq_true rfl) (by rw [ey15]; rfl) ?_
          refine wa_goto C 97 dX9_byStorms_71 rfl ?_
          obtain ⟨x16, ex16, hf⟩ := bnd_ex hf
          refine wa_iinc (v := x16) (lv' := [(0, .ref (a 0)), (1, .ref (a0 0)), (2, .int l2), (3, .int l3), (4, .int l4), (5, .int l5), (6, .int l6), (7, .int l7), (8, .int x14), (9, .int x16)]) C 9 [1, 2, 3, 4, 5, 6, 7, 8, 9, 0] 100 dX9_byStorms_97 rfl rfl (by rw [ex16]; rfl) (Nat.le_of_ble_eq_true rfl) rfl ?_
          refine wa_goto C 29 dX9_byStorms_100 rfl ?_
          exact ih x14 x16 z1 z2 z3 y15 hf
set_option maxRecDepth 20000 in
theorem w_X9_byStorms_L6 {p : Program} {l : Launch} {e : Env} {s : State} {m : MethodId} {args : Array Value} {below : List Frame} {meth : Method} {c : Code} {D : va_G} {A : Nat → Prop} {dT : Nat → ClassId} {a : Nat → Nat} {a_d : Nat → Nat} {a_d_p : Nat → Nat} {a_d_k : Nat → Nat} {a_t : Nat → Nat} {a_k : Nat → Nat} {a0 : Nat → Nat} {res : Int32 × Ob × Ob × Ob × Ob} {l2 : Int32} {l3 : Int32} {l4 : Int32} {l5 : Int32} {z0 : Ob} {z5 : Ob} {z6 : Ob} (C : Cx p s m args meth c cX9_byStorms 10 RX9 (some .int) D A dT) : ∀ (n : Nat) (l6 : Int32) (l7 : Int32) (z1 : Ob) (z2 : Ob) (z3 : Ob) (z4 : Ob), f_X9_byStorms_L6 l2 l3 l4 l5 z0 z5 z6 n l6 l7 z1 z2 z3 z4 = some res → WA p l e ({ frames := 6, cells := 0, slots := 0, locals := 130 } : Room) s m args below meth c (MQ below (QI D dT A ([wT dT a (a_d 0) (a_t 0) (a_k 0) z0, wD dT a_d (a_d_p 0) (a_d_k 0) res.2.1, wR dT a_d_p res.2.2.1, wR dT a_d_k res.2.2.2.1, wV dT a_t res.2.2.2.2, wK dT a_k z5, wV dT a0 z6]) res.1) args s 0 0 A) D A 0 0 10 6 ([wT dT a (a_d 0) (a_t 0) (a_k 0) z0, wD dT a_d (a_d_p 0) (a_d_k 0) z1, wR dT a_d_p z2, wR dT a_d_k z3, wV dT a_t z4, wK dT a_k z5, wV dT a0 z6]) [(0, .ref (a 0)), (1, .ref (a0 0)), (2, .int l2), (3, .int l3), (4, .int l4), (5, .int l5), (6, .int l6), (7, .int l7)] [] := by
  intro n
  induction n with
  | zero => intro l6 l7 z1 z2 z3 z4 hf; cases hf
  | succ n ih =>
    intro l6 l7 z1 z2 z3 z4 hf
    unfold f_X9_byStorms_L6 at hf
    refine wa_iload C 7 8 dX9_byStorms_6 rfl rfl ?_
    refine wa_iconst (v := 1) C 9 dX9_byStorms_8 rfl rfl ?_
    refine wa_iload C 4 11 dX9_byStorms_9 rfl rfl ?_
    refine wa_ishl C 12 dX9_byStorms_11 rfl ?_
    refine wa_icmp_ge C 128 15 dX9_byStorms_12 rfl rfl (fun c1 => ?_) (fun c1 => ?_)
    · replace hf := ite_t hf c1
      refine wa_iload C 6 130 dX9_byStorms_128 rfl rfl ?_
      cases hf
      exact wa_iret C dX9_byStorms_130 rfl rfl
    · replace hf := ite_f hf c1
      refine wa_iconst (v := 1) C 16 dX9_byStorms_15 rfl rfl ?_
      refine wa_istore (lv' := [(0, .ref (a 0)), (1, .ref (a0 0)), (2, .int l2), (3, .int l3), (4, .int l4), (5, .int l5), (6, .int l6), (7, .int l7), (8, .int (1 : Int32))]) C [1, 2, 3, 4, 5, 6, 7, 8, 0] 18 dX9_byStorms_16 rfl (Nat.le_of_ble_eq_true rfl) rfl ?_
      refine wa_aload_n C 0 19 dX9_byStorms_18 rfl rfl ?_
      refine wa_get C 22 0 0 1 dX9_byStorms_19 rfl iX9 q328 rfl (Nat.le_of_ble_eq_true rfl) rfl rfl rfl ?_
      refine wa_aload_n C 1 23 dX9_byStorms_22 rfl rfl ?_
      obtain ⟨q2, hq2, hf⟩ := bind_ex hf
      refine wa_callVv (b1 := 4) (q1 := 0) (ci := 10) (ws' := [wT dT a (a_d 0) (a_t 0) (a_k 0) z0, wD dT a_d (a_d_p 0) (a_d_k 0) z1, wR dT a_d_p z2, wR dT a_d_k z3, wV dT a_t q2, wK dT a_k z5, wV dT a0 z6]) (As := [.ref (a0 0)]) C 26 dX9_byStorms_23 rfl kv_X9_64 (c_X10_copyFrom hq2) ⟨rfl, rfl⟩ ⟨Nat.le_of_ble_eq_true rfl, Nat.le_of_ble_eq_true rfl⟩ rfl rfl rfl [4, 6] [0, 1, 2, 3, 5] [0, 1, 2, 3, 5, 4, 6] rfl rfl rfl rfl (by decide) rfl rfl rfl rfl ⟨Nat.zero_le _, Nat.zero_le _⟩ (Nat.le_of_ble_eq_true rfl) ?_
      refine wa_iconst (v := 0) C 27 dX9_byStorms_26 rfl rfl ?_
      refine wa_istore (lv' := [(0, .ref (a 0)), (1, .ref (a0 0)), (2, .int l2), (3, .int l3), (4, .int l4), (5, .int l5), (6, .int l6), (7, .int l7), (8, .int (1 : Int32)), (9, .int (0 : Int32))]) C [1, 2, 3, 4, 5, 6, 7, 8, 9, 0] 29 dX9_byStorms_27 rfl (Nat.le_of_ble_eq_true rfl) rfl ?_
      exact w_X9_byStorms_L29 C ih FUEL (1 : Int32) (0 : Int32) z1 z2 z3 q2 hf
set_option maxRecDepth 20000 in
theorem c_X9_byStorms {l : Launch} {D : va_G} {dT : Nat → ClassId} {a : Nat → Nat} {a_d : Nat → Nat} {a_d_p : Nat → Nat} {a_d_k : Nat → Nat} {a_t : Nat → Nat} {a_k : Nat → Nat} {a0 : Nat → Nat} {v : Ob} {v_d : Ob} {v_d_p : Ob} {v_d_k : Ob} {v_t : Ob} {v_k : Ob} {v0 : Ob} {p1 : Int32} {p2 : Int32} {p3 : Int32} {p4 : Int32} {res : Int32 × Ob × Ob × Ob × Ob} (hf : f_X9_byStorms v v_d v_d_p v_d_k v_t v_k v0 p1 p2 p3 p4 = some res) : CTi l yX9_byStorms cX9_byStorms 10 (some .int) ({ frames := 6, cells := 0, slots := 0, locals := 130 } : Room) D dT [.ref (a 0), .ref (a0 0), .int p1, .int p2, .int p3, .int p4] ([wT dT a (a_d 0) (a_t 0) (a_k 0) v, wD dT a_d (a_d_p 0) (a_d_k 0) v_d, wR dT a_d_p v_d_p, wR dT a_d_k v_d_k, wV dT a_t v_t, wK dT a_k v_k, wV dT a0 v0]) ([wT dT a (a_d 0) (a_t 0) (a_k 0) v, wD dT a_d (a_d_p 0) (a_d_k 0) res.2.1, wR dT a_d_p res.2.2.1, wR dT a_d_k res.2.2.2.1, wV dT a_t res.2.2.2.2, wK dT a_k v_k, wV dT a0 v0]) res.1 := by
  refine CTi.of (by decide) (Nat.le_of_ble_eq_true rfl) rfl ?_
  intro p e s m args below meth c A C
  unfold f_X9_byStorms at hf
  refine wa_iconst (v := 0) C 1 dX9_byStorms_0 rfl rfl ?_
  refine wa_istore (lv' := [(0, .ref (a 0)), (1, .ref (a0 0)), (2, .int p1), (3, .int p2), (4, .int p3), (5, .int p4), (6, .int (0 : Int32))]) C [1, 2, 3, 4, 5, 6, 0] 3 dX9_byStorms_1 rfl (Nat.le_of_ble_eq_true rfl) rfl ?_
  refine wa_iconst (v := 0) C 4 dX9_byStorms_3 rfl rfl ?_
  refine wa_istore (lv' := [(0, .ref (a 0)), (1, .ref (a0 0)), (2, .int p1), (3, .int p2), (4, .int p3), (5, .int p4), (6, .int (0 : Int32)), (7, .int (0 : Int32))]) C [1, 2, 3, 4, 5, 6, 7, 0] 6 dX9_byStorms_4 rfl (Nat.le_of_ble_eq_true rfl) rfl ?_
  exact w_X9_byStorms_L6 C FUEL (0 : Int32) (0 : Int32) v_d v_d_p v_d_k v_t hf
