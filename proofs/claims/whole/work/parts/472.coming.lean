theorem kv_X1_76 : KV RX1 76 yX10_sizesKey cX10_sizesKey 4 (some .long) 0 := KV.mk q1206 q1207 q1208 q3 q1209 ⟨by decide, by decide, by decide +kernel⟩
def f_X1_sizesRound_L42 (k31 : Int32 → Option (Int32 × CS × Ob × Ob × Ob × FS)) (B5 : Nat) (l1 : Int32) (l2 : Int32) (z0 : CS) (z1 : Ob) (z2 : Ob) (z3 : Ob) (z4 : Ob) (z5 : FS) : Nat → Int32 → Option (Int32 × CS × Ob × Ob × Ob × FS)
  | 0, _ => none
  | n + 1, l3 => (if (200 : Int32) < l3 then bnd (l2 + 1) (fun x5 => k31 x5) else grd (vi l2 201) (grd (vi l3 201) ((if (lg_cmp (z0.2.1 (l2).toNatClampNeg) (z0.2.1 (l3).toNatClampNeg)) = 0 then (if l1 = 0 then some ((l3 - l2), z0, z1, z2, z3, z5) else some (l2, z0, z1, z2, z3, z5)) else bnd (l3 + 1) (fun x9 => f_X1_sizesRound_L42 k31 B5 l1 l2 z0 z1 z2 z3 z4 z5 n x9)))))
def f_X1_sizesRound_L31 (B5 : Nat) (l1 : Int32) (z0 : CS) (z1 : Ob) (z2 : Ob) (z3 : Ob) (z4 : Ob) (z5 : FS) : Nat → Int32 → Option (Int32 × CS × Ob × Ob × Ob × FS)
  | 0, _ => none
  | n + 1, l2 => (if (200 : Int32) ≤ l2 then some ((-1 : Int32), z0, z1, z2, z3, z5) else bnd (l2 + (1 : Int32)) (fun x3 => f_X1_sizesRound_L42 (f_X1_sizesRound_L31 B5 l1 z0 z1 z2 z3 z4 z5 n) B5 l1 l2 z0 z1 z2 z3 z4 z5 FUEL x3))
def f_X1_sizesRound_L2 (B5 : Nat) (l1 : Int32) (z4 : Ob) : Nat → Int32 → CS → Ob → Ob → Ob → FS → Option (Int32 × CS × Ob × Ob × Ob × FS)
  | 0, _, _, _, _, _, _ => none
  | n + 1, l2, z0, z1, z2, z3, z5 => (if (200 : Int32) < l2 then f_X1_sizesRound_L31 B5 l1 z0 z1 z2 z3 z4 z5 FUEL (0 : Int32) else (f_X1_behind z0 z1 z2 z3 z4 z5 (max z5.1 ((l2).toNatClampNeg + 1)) l2).bind (fun q11 => grd (decide (z5.1 ≤ q11.2.2.2.2.2.1 ∧ q11.2.2.2.2.2.1 = (max z5.1 ((l2).toNatClampNeg + 1)) ∧ (max z5.1 ((l2).toNatClampNeg + 1)) ≤ B5)) (grd (decide (q11.1 < q11.2.2.2.2.2.1)) ((f_X10_sizesKey (q11.2.2.2.2.2.2.2 q11.1)).bind (fun q15 => grd (vi l2 201) (bnd (q11.2.1.1, vp_updL q11.2.1.2.1 (l2).toNatClampNeg q15, q11.2.1.2.2) (fun y18 => bnd (l2 + 1) (fun x19 => f_X1_sizesRound_L2 B5 l1 z4 n x19 y18 q11.2.2.1 q11.2.2.2.1 q11.2.2.2.2.1 q11.2.2.2.2.2))))))))
def f_X1_sizesRound (v : CS) (v_d : Ob) (v_d_p : Ob) (v_d_k : Ob) (v_k : Ob) (v_r : FS) (B5 : Nat) (p0 : Int32) : Option (Int32 × CS × Ob × Ob × Ob × FS) := f_X1_sizesRound_L2 B5 p0 v_k FUEL (0 : Int32) v v_d v_d_p v_d_k v_r
set_option maxRecDepth 20000 in
theorem w_X1_sizesRound_L42 {p : Program} {l : Launch} {e : Env} {s : State} {m : MethodId} {args : Array Value} {below : List Frame} {meth : Method} {c : Code} {D : va_G} {A : Nat → Prop} {dT : Nat → ClassId} {a : Nat → Nat} {a_d : Nat → Nat} {a_d_p : Nat → Nat} {a_d_k : Nat → Nat} {a_k : Nat → Nat} {m5 B5 : Nat} {r5 : Nat → Nat → Nat} {res : Int32 × CS × Ob × Ob × Ob × FS} {l1 : Int32} {l2 : Int32} {z0 : CS} {z1 : Ob} {z2 : Ob} {z3 : Ob} {z4 : Ob} {z5 : FS} (C : Cx p s m args meth c cX1_sizesRound 4 RX1 (some .int) D A dT) {k31 : Int32 → Option (Int32 × CS × Ob × Ob × Ob × FS)} (hk31 : ∀ (l2 : Int32) (rr5 : Nat → Nat → Nat), m5 ≤ z5.1 → z5.1 - m5 ≤ B5 - m5 → (∀ k, k < m5 → rr5 k = r5 k) → k31 l2 = some res → WA p l e ({ frames := 7, cells := 8 * ((B5 - m5)), slots := 96 * ((B5 - m5)), locals := 153 } : Room) s m args below meth c (MQ below (va_Qi (fun r9 u => r9 = res.1 ∧ (fun u : (Nat → Nat → Nat) => (∀ k, k < m5 → u k = r5 k)) u) (fun u t => WB D dT A ((fun u : (Nat → Nat → Nat) => [wC dT a (a_d 0) (u 0 0) (a_k 0) (pim u res.2.2.2.2.2.2.1) res.2.1, wD dT a_d (a_d_p 0) (a_d_k 0) res.2.2.1, wR dT a_d_p res.2.2.2.1, wR dT a_d_k res.2.2.2.2.1, wK dT a_k z4, wRw dT res.2.2.2.2.2.1 u res.2.2.2.2.2.2.2]) u) t) A) args s (8 * ((B5 - m5))) (96 * ((B5 - m5))) A) D A (8 * ((z5.1 - m5))) (96 * ((z5.1 - m5))) 4 31 ([wC dT a (a_d 0) (rr5 0 0) (a_k 0) (pim rr5 z5.2.1) z0, wD dT a_d (a_d_p 0) (a_d_k 0) z1, wR dT a_d_p z2, wR dT a_d_k z3, wK dT a_k z4, wRw dT z5.1 rr5 z5.2.2]) [(0, .ref (a 0)), (1, .int l1), (2, .int l2)] []) : ∀ (n : Nat) (l3 : Int32) (rr5 : Nat → Nat → Nat), m5 ≤ z5.1 → z5.1 - m5 ≤ B5 - m5 → (∀ k, k < m5 → rr5 k = r5 k) → f_X1_sizesRound_L42 k31 B5 l1 l2 z0 z1 z2 z3 z4 z5 n l3 = some res → WA p l e ({ frames := 7, cells := 8 * ((B5 - m5)), slots := 96 * ((B5 - m5)), locals := 153 } : Room) s m args below meth c (MQ below (va_Qi (fun r9 u => r9 = res.1 ∧ (fun u : (Nat → Nat → Nat) => (∀ k, k < m5 → u k = r5 k)) u) (fun u t => WB D dT A ((fun u : (Nat → Nat → Nat) => [wC dT a (a_d 0) (u 0 0) (a_k 0) (pim u res.2.2.2.2.2.2.1) res.2.1, wD dT a_d (a_d_p 0) (a_d_k 0) res.2.2.1, wR dT a_d_p res.2.2.2.1, wR dT a_d_k res.2.2.2.2.1, wK dT a_k z4, wRw dT res.2.2.2.2.2.1 u res.2.2.2.2.2.2.2]) u) t) A) args s (8 * ((B5 - m5))) (96 * ((B5 - m5))) A) D A (8 * ((z5.1 - m5))) (96 * ((z5.1 - m5))) 4 42 ([wC dT a (a_d 0) (rr5 0 0) (a_k 0) (pim rr5 z5.2.1) z0, wD dT a_d (a_d_p 0) (a_d_k 0) z1, wR dT a_d_p z2, wR dT a_d_k z3, wK dT a_k z4, wRw dT z5.1 rr5 z5.2.2]) [(0, .ref (a 0)), (1, .int l1), (2, .int l2), (3, .int l3)] [] := by
  intro n
  induction n with
  | zero => intro l3 rr5 hm5 hb5 hg5 hf; cases hf
  | succ n ih =>
    intro l3 rr5 hm5 hb5 hg5 hf
    unfold f_X1_sizesRound_L42 at hf
    refine wa_iload_n C 3 43 dX1_sizesRound_42 rfl rfl ?_
    refine wa_sipush (v := 200) C 46 dX1_sizesRound_43 rfl rfl ?_
    refine wa_icmp_gt C 83 49 dX1_sizesRound_46 rfl rfl (fun c4 => ?_) (fun c4 => ?_)
    · replace hf := ite_t hf c4
      obtain ⟨x5, ex5, hf⟩ := bnd_ex hf
      refine wa_iinc (v := x5) (lv' := [(0, .ref (a 0)), (1, .int l1), (2, .int x5), (3, .int l3)]) C 2 [1, 2, 0, 3] 86 dX1_sizesRound_83 rfl rfl (by rw [ex5]; rfl) (Nat.le_of_ble_eq_true rfl) rfl ?_
      refine wa_goto C 31 dX1_sizesRound_86 rfl ?_
      refine wa_lv (lv' := [(0, .ref (a 0)), (1, .int l1), (2, .int x5)]) [0, 1, 2] rfl ?_
      exact hk31 x5 rr5 hm5 hb5 hg5 hf
    · replace hf := ite_f hf c4
      refine wa_aload_n C 0 50 dX1_sizesRound_49 rfl rfl ?_
      refine wa_get C 53 0 0 4 dX1_sizesRound_50 rfl iX1 q254 rfl (Nat.le_of_ble_eq_true rfl) rfl rfl rfl ?_
      refine wa_iload_n C 2 54 dX1_sizesRound_53 rfl rfl ?_
      obtain ⟨g6, hf⟩ := grd_ex hf
      refine wa_lald C 55 0 3 dX1_sizesRound_54 rfl rfl rfl (vi_in g6) ?_
      refine wa_aload_n C 0 56 dX1_sizesRound_55 rfl rfl ?_
      refine wa_get C 59 0 0 4 dX1_sizesRound_56 rfl iX1 q254 rfl (Nat.le_of_ble_eq_true rfl) rfl rfl rfl ?_
      refine wa_iload_n C 3 60 dX1_sizesRound_59 rfl rfl ?_
      obtain ⟨g7, hf⟩ := grd_ex hf
      refine wa_lald C 61 0 3 dX1_sizesRound_60 rfl rfl rfl (vi_in g7) ?_
      refine wa_lcmp C 62 dX1_sizesRound_61 rfl ?_
      refine wa_if_ne C 77 65 dX1_sizesRound_62 rfl rfl (fun c8 => ?_) (fun c8 => ?_)
      · replace hf := ite_f hf c8
        obtain ⟨x9, ex9, hf⟩ := bnd_ex hf
        refine wa_iinc (v := x9) (lv' := [(0, .ref (a 0)), (1, .int l1), (2, .int l2), (3, .int x9)]) C 3 [1, 2, 3, 0] 80 dX1_sizesRound_77 rfl rfl (by rw [ex9]; rfl) (Nat.le_of_ble_eq_true rfl) rfl ?_
        refine wa_goto C 42 dX1_sizesRound_80 rfl ?_
        exact ih x9 rr5 hm5 hb5 hg5 hf
      · replace hf := ite_t hf c8
        refine wa_iload_n C 1 66 dX1_sizesRound_65 rfl rfl ?_
        refine wa_if_eq C 73 69 dX1_sizesRound_66 rfl rfl (fun c10 => ?_) (fun c10 => ?_)
        · replace hf := ite_t hf c10
          refine wa_iload_n C 3 74 dX1_sizesRound_73 rfl rfl ?_
          refine wa_iload_n C 2 75 dX1_sizesRound_74 rfl rfl ?_
          refine wa_isub C 76 dX1_sizesRound_75 rfl ?_
          cases hf
          exact wa_irm C (rr5) dX1_sizesRound_76 hg5 rfl rfl (by show (8 * ((z5.1 - m5))) ≤ 8 * ((B5 - m5)); omega) (by show (96 * ((z5.1 - m5))) ≤ 96 * ((B5 - m5)); omega)
        · replace hf := ite_f hf c10
          refine wa_iload_n C 2 70 dX1_sizesRound_69 rfl rfl ?_
          refine wa_goto C 76 dX1_sizesRound_70 rfl ?_
          cases hf
          exact wa_irm C (rr5) dX1_sizesRound_76 hg5 rfl rfl (by show (8 * ((z5.1 - m5))) ≤ 8 * ((B5 - m5)); omega) (by show (96 * ((z5.1 - m5))) ≤ 96 * ((B5 - m5)); omega)
set_option maxRecDepth 20000 in
theorem w_X1_sizesRound_L31 {p : Program} {l : Launch} {e : Env} {s : State} {m : MethodId} {args : Array Value} {below : List Frame} {meth : Method} {c : Code} {D : va_G} {A : Nat → Prop} {dT : Nat → ClassId} {a : Nat → Nat} {a_d : Nat → Nat} {a_d_p : Nat → Nat} {a_d_k : Nat → Nat} {a_k : Nat → Nat} {m5 B5 : Nat} {r5 : Nat → Nat → Nat} {res : Int32 × CS × Ob × Ob × Ob × FS} {l1 : Int32} {z0 : CS} {z1 : Ob} {z2 : Ob} {z3 : Ob} {z4 : Ob} {z5 : FS} (C : Cx p s m args meth c cX1_sizesRound 4 RX1 (some .int) D A dT) : ∀ (n : Nat) (l2 : Int32) (rr5 : Nat → Nat → Nat), m5 ≤ z5.1 → z5.1 - m5 ≤ B5 - m5 → (∀ k, k < m5 → rr5 k = r5 k) → f_X1_sizesRound_L31 B5 l1 z0 z1 z2 z3 z4 z5 n l2 = some res → WA p l e ({ frames := 7, cells := 8 * ((B5 - m5)), slots := 96 * ((B5 - m5)), locals := 153 } : Room) s m args below meth c (MQ below (va_Qi (fun r9 u => r9 = res.1 ∧ (fun u : (Nat → Nat → Nat) => (∀ k, k < m5 → u k = r5 k)) u) (fun u t => WB D dT A ((fun u : (Nat → Nat → Nat) => [wC dT a (a_d 0) (u 0 0) (a_k 0) (pim u res.2.2.2.2.2.2.1) res.2.1, wD dT a_d (a_d_p 0) (a_d_k 0) res.2.2.1, wR dT a_d_p res.2.2.2.1, wR dT a_d_k res.2.2.2.2.1, wK dT a_k z4, wRw dT res.2.2.2.2.2.1 u res.2.2.2.2.2.2.2]) u) t) A) args s (8 * ((B5 - m5))) (96 * ((B5 - m5))) A) D A (8 * ((z5.1 - m5))) (96 * ((z5.1 - m5))) 4 31 ([wC dT a (a_d 0) (rr5 0 0) (a_k 0) (pim rr5 z5.2.1) z0, wD dT a_d (a_d_p 0) (a_d_k 0) z1, wR dT a_d_p z2, wR dT a_d_k z3, wK dT a_k z4, wRw dT z5.1 rr5 z5.2.2]) [(0, .ref (a 0)), (1, .int l1), (2, .int l2)] [] := by
  intro n
  induction n with
  | zero => intro l2 rr5 hm5 hb5 hg5 hf; cases hf
  | succ n ih =>
    intro l2 rr5 hm5 hb5 hg5 hf
    unfold f_X1_sizesRound_L31 at hf
    refine wa_iload_n C 2 32 dX1_sizesRound_31 rfl rfl ?_
    refine wa_sipush (v := 200) C 35 dX1_sizesRound_32 rfl rfl ?_
    refine wa_icmp_ge C 89 38 dX1_sizesRound_35 rfl rfl (fun c2 => ?_) (fun c2 => ?_)
    · replace hf := ite_t hf c2
      refine wa_iconst (v := (-1)) C 90 dX1_sizesRound_89 rfl rfl ?_
      cases hf
      exact wa_irm C (rr5) dX1_sizesRound_90 hg5 rfl rfl (by show (8 * ((z5.1 - m5))) ≤ 8 * ((B5 - m5)); omega) (by show (96 * ((z5.1 - m5))) ≤ 96 * ((B5 - m5)); omega)
    · replace hf := ite_f hf c2
      refine wa_iload_n C 2 39 dX1_sizesRound_38 rfl rfl ?_
      refine wa_iconst (v := 1) C 40 dX1_sizesRound_39 rfl rfl ?_
      refine wa_iadd C 41 dX1_sizesRound_40 rfl ?_
      obtain ⟨x3, ex3, hf⟩ := bnd_ex hf
      refine wa_topi ex3 ?_
      refine wa_istore_n (lv' := [(0, .ref (a 0)), (1, .int l1), (2, .int l2), (3, .int x3)]) C [1, 2, 3, 0] 42 dX1_sizesRound_41 rfl (Nat.le_of_ble_eq_true rfl) rfl ?_
      exact w_X1_sizesRound_L42 C ih FUEL x3 rr5 hm5 hb5 hg5 hf
set_option maxRecDepth 20000 in
theorem w_X1_sizesRound_L2 {p : Program} {l : Launch} {e : Env} {s : State} {m : MethodId} {args : Array Value} {below : List Frame} {meth : Method} {c : Code} {D : va_G} {A : Nat → Prop} {dT : Nat → ClassId} {a : Nat → Nat} {a_d : Nat → Nat} {a_d_p : Nat → Nat} {a_d_k : Nat → Nat} {a_k : Nat → Nat} {m5 B5 : Nat} {r5 : Nat → Nat → Nat} {res : Int32 × CS × Ob × Ob × Ob × FS} {l1 : Int32} {z4 : Ob} (C : Cx p s m args meth c cX1_sizesRound 4 RX1 (some .int) D A dT) : ∀ (n : Nat) (l2 : Int32) (z0 : CS) (z1 : Ob) (z2 : Ob) (z3 : Ob) (z5 : FS) (rr5 : Nat → Nat → Nat), m5 ≤ z5.1 → z5.1 - m5 ≤ B5 - m5 → (∀ k, k < m5 → rr5 k = r5 k) → f_X1_sizesRound_L2 B5 l1 z4 n l2 z0 z1 z2 z3 z5 = some res → WA p l e ({ frames := 7, cells := 8 * ((B5 - m5)), slots := 96 * ((B5 - m5)), locals := 153 } : Room) s m args below meth c (MQ below (va_Qi (fun r9 u => r9 = res.1 ∧ (fun u : (Nat → Nat → Nat) => (∀ k, k < m5 → u k = r5 k)) u) (fun u t => WB D dT A ((fun u : (Nat → Nat → Nat) => [wC dT a (a_d 0) (u 0 0) (a_k 0) (pim u res.2.2.2.2.2.2.1) res.2.1, wD dT a_d (a_d_p 0) (a_d_k 0) res.2.2.1, wR dT a_d_p res.2.2.2.1, wR dT a_d_k res.2.2.2.2.1, wK dT a_k z4, wRw dT res.2.2.2.2.2.1 u res.2.2.2.2.2.2.2]) u) t) A) args s (8 * ((B5 - m5))) (96 * ((B5 - m5))) A) D A (8 * ((z5.1 - m5))) (96 * ((z5.1 - m5))) 4 2 ([wC dT a (a_d 0) (rr5 0 0) (a_k 0) (pim rr5 z5.2.1) z0, wD dT a_d (a_d_p 0) (a_d_k 0) z1, wR dT a_d_p z2, wR dT a_d_k z3, wK dT a_k z4, wRw dT z5.1 rr5 z5.2.2]) [(0, .ref (a 0)), (1, .int l1), (2, .int l2)] [] := by
  intro n
  induction n with
  | zero => intro l2 z0 z1 z2 z3 z5 rr5 hm5 hb5 hg5 hf; cases hf
  | succ n ih =>
    intro l2 z0 z1 z2 z3 z5 rr5 hm5 hb5 hg5 hf
    unfold f_X1_sizesRound_L2 at hf
    refine wa_iload_n C 2 3 dX1_sizesRound_2 rfl rfl ?_
    refine wa_sipush (v := 200) C 6 dX1_sizesRound_3 rfl rfl ?_
    refine wa_icmp_gt C 29 9 dX1_sizesRound_6 rfl rfl (fun c1 => ?_) (fun c1 => ?_)
    · replace hf := ite_t hf c1
      refine wa_iconst (v := 0) C 30 dX1_sizesRound_29 rfl rfl ?_
      refine wa_istore_n (lv' := [(0, .ref (a 0)), (1, .int l1), (2, .int (0 : Int32))]) C [1, 2, 0] 31 dX1_sizesRound_30 rfl (Nat.le_of_ble_eq_true rfl) rfl ?_
      exact w_X1_sizesRound_L31 C FUEL (0 : Int32) rr5 hm5 hb5 hg5 hf
    · replace hf := ite_f hf c1
      refine wa_aload_n C 0 10 dX1_sizesRound_9 rfl rfl ?_
      refine wa_get C 13 0 0 4 dX1_sizesRound_10 rfl iX1 q254 rfl (Nat.le_of_ble_eq_true rfl) rfl rfl rfl ?_
      refine wa_iload_n C 2 14 dX1_sizesRound_13 rfl rfl ?_
      refine wa_aload_n C 0 15 dX1_sizesRound_14 rfl rfl ?_
      refine wa_iload_n C 2 16 dX1_sizesRound_15 rfl rfl ?_
      obtain ⟨q11, hq11, hf⟩ := bind_ex hf
      obtain ⟨g12, hf⟩ := grd_ex hf
      replace g12 := of_decide_eq_true g12
      refine wa_callMr (b1 := 0) (q1 := 0) (ci := 1) (As := [.int l2]) C (fun (ru13 : (Nat → Nat → Nat)) => [wC dT a (a_d 0) (ru13 0 0) (a_k 0) (pim ru13 q11.2.2.2.2.2.2.1) q11.2.1, wD dT a_d (a_d_p 0) (a_d_k 0) q11.2.2.1, wR dT a_d_p q11.2.2.2.1, wR dT a_d_k q11.2.2.2.2.1, wK dT a_k z4, wRw dT q11.2.2.2.2.2.1 ru13 q11.2.2.2.2.2.2.2]) 19 dX1_sizesRound_16 rfl kv_X1_59 (c_X1_behind hq11) ⟨rfl, rfl⟩ ⟨Nat.le_of_ble_eq_true rfl, Nat.le_of_ble_eq_true rfl⟩ rfl rfl rfl [0, 1, 2, 3, 4, 5] [] [0, 1, 2, 3, 4, 5] rfl rfl rfl rfl (by decide) rfl (fun _ => rfl) rfl rfl ⟨by show (8 * ((z5.1 - m5))) + 8 * (((max z5.1 ((l2).toNatClampNeg + 1)) - z5.1)) ≤ 8 * ((B5 - m5)); omega, by show (96 * ((z5.1 - m5))) + 96 * (((max z5.1 ((l2).toNatClampNeg + 1)) - z5.1)) ≤ 96 * ((B5 - m5)); omega⟩ (Nat.le_of_ble_eq_true rfl) (fun ru13 hu => ?_)
      refine wa_widen (k := (8 * ((q11.2.2.2.2.2.1 - m5)))) (n := (96 * ((q11.2.2.2.2.2.1 - m5)))) (by omega) (by omega) ?_
      replace hg5 : ∀ k, k < m5 → ru13 k = r5 k := fun k hk => (hu k (by omega)).trans (hg5 k hk)
      replace hm5 : m5 ≤ q11.2.2.2.2.2.1 := by omega
      replace hb5 : q11.2.2.2.2.2.1 - m5 ≤ B5 - m5 := by omega
      obtain ⟨g14, hf⟩ := grd_ex hf
      replace g14 := of_decide_eq_true g14
      refine wa_openF 5 q11.1 g14 List.not_mem_nil rfl ?_
      obtain ⟨q15, hq15, hf⟩ := bind_ex hf
      refine wa_callVl (b1 := 6) (q1 := 0) (ci := 10) (ws' := [wC dT a (a_d 0) (ru13 0 0) (a_k 0) (pim ru13 q11.2.2.2.2.2.2.1) q11.2.1, wD dT a_d (a_d_p 0) (a_d_k 0) q11.2.2.1, wR dT a_d_p q11.2.2.2.1, wR dT a_d_k q11.2.2.2.2.1, wK dT a_k z4, wRm dT q11.2.2.2.2.2.1 [q11.1] ru13 q11.2.2.2.2.2.2.2, wV dT (ru13 q11.1) (q11.2.2.2.2.2.2.2 q11.1)]) (As := []) C 22 dX1_sizesRound_19 rfl kv_X1_76 (c_X10_sizesKey hq15) ⟨rfl, rfl⟩ ⟨Nat.le_of_ble_eq_true rfl, Nat.le_of_ble_eq_true rfl⟩ rfl rfl rfl [6] [0, 1, 2, 3, 4, 5] [0, 1, 2, 3, 4, 5, 6] rfl rfl rfl rfl (by decide) rfl rfl rfl rfl ⟨by show (8 * ((q11.2.2.2.2.2.1 - m5))) ≤ 8 * ((B5 - m5)); omega, by show (96 * ((q11.2.2.2.2.2.1 - m5))) ≤ 96 * ((B5 - m5)); omega⟩ (Nat.le_of_ble_eq_true rfl) ?_
      refine wa_closeR (ws := [wC dT a (a_d 0) (ru13 0 0) (a_k 0) (pim ru13 q11.2.2.2.2.2.2.1) q11.2.1, wD dT a_d (a_d_p 0) (a_d_k 0) q11.2.2.1, wR dT a_d_p q11.2.2.2.1, wR dT a_d_k q11.2.2.2.2.1, wK dT a_k z4, wRm dT q11.2.2.2.2.2.1 [q11.1] ru13 q11.2.2.2.2.2.2.2]) (ws' := [wC dT a (a_d 0) (ru13 0 0) (a_k 0) (pim ru13 q11.2.2.2.2.2.2.1) q11.2.1, wD dT a_d (a_d_p 0) (a_d_k 0) q11.2.2.1, wR dT a_d_p q11.2.2.2.1, wR dT a_d_k q11.2.2.2.2.1, wK dT a_k z4, wRm dT q11.2.2.2.2.2.1 [] ru13 q11.2.2.2.2.2.2.2]) 5 q11.1 g14 List.not_mem_nil rfl rfl ?_
      refine wa_ws (ws' := [wC dT a (a_d 0) (ru13 0 0) (a_k 0) (pim ru13 q11.2.2.2.2.2.2.1) q11.2.1, wD dT a_d (a_d_p 0) (a_d_k 0) q11.2.2.1, wR dT a_d_p q11.2.2.2.1, wR dT a_d_k q11.2.2.2.2.1, wK dT a_k z4, wRw dT q11.2.2.2.2.2.1 ru13 q11.2.2.2.2.2.2.2]) rfl ?_
      obtain ⟨g17, hf⟩ := grd_ex hf
      obtain ⟨y18, ey18, hf⟩ := bnd_ex hf
      refine wa_last (ws' := [wC dT a (a_d 0) (ru13 0 0) (a_k 0) (pim ru13 q11.2.2.2.2.2.2.1) y18, wD dT a_d (a_d_p 0) (a_d_k 0) q11.2.2.1, wR dT a_d_p q11.2.2.2.1, wR dT a_d_k q11.2.2.2.2.1, wK dT a_k z4, wRw dT q11.2.2.2.2.2.1 ru13 q11.2.2.2.2.2.2.2]) C 23 0 3 dX1_sizesRound_22 rfl rfl rfl (vi_in g17) (by rw [ey18]; rfl) ?_
      obtain ⟨x19, ex19, hf⟩ := bnd_ex hf
      refine wa_iinc (v := x19) (lv' := [(0, .ref (a 0)), (1, .int l1), (2, .int x19)]) C 2 [1, 2, 0] 26 dX1_sizesRound_23 rfl rfl (by rw [ex19]; rfl) (Nat.le_of_ble_eq_true rfl) rfl ?_
      refine wa_goto C 2 dX1_sizesRound_26 rfl ?_
      exact ih x19 y18 q11.2.2.1 q11.2.2.2.1 q11.2.2.2.2.1 q11.2.2.2.2.2 ru13 hm5 hb5 hg5 hf
set_option maxRecDepth 20000 in
theorem c_X1_sizesRound {l : Launch} {D : va_G} {dT : Nat → ClassId} {a : Nat → Nat} {a_d : Nat → Nat} {a_d_p : Nat → Nat} {a_d_k : Nat → Nat} {a_k : Nat → Nat} {a_r : Nat → Nat → Nat} {v : CS} {v_d : Ob} {v_d_p : Ob} {v_d_k : Ob} {v_k : Ob} {v_r : FS} {B5 : Nat} {p0 : Int32} {res : Int32 × CS × Ob × Ob × Ob × FS} (hf : f_X1_sizesRound v v_d v_d_p v_d_k v_k v_r B5 p0 = some res) : CMi l yX1_sizesRound cX1_sizesRound 4 (some .int) ({ frames := 7, cells := 8 * ((B5 - v_r.1)), slots := 96 * ((B5 - v_r.1)), locals := 153 } : Room) D dT [.ref (a 0), .int p0] ([wC dT a (a_d 0) (a_r 0 0) (a_k 0) (pim a_r v_r.2.1) v, wD dT a_d (a_d_p 0) (a_d_k 0) v_d, wR dT a_d_p v_d_p, wR dT a_d_k v_d_k, wK dT a_k v_k, wRw dT v_r.1 a_r v_r.2.2]) (fun u : (Nat → Nat → Nat) => (∀ k, k < v_r.1 → u k = a_r k)) (fun u : (Nat → Nat → Nat) => [wC dT a (a_d 0) (u 0 0) (a_k 0) (pim u res.2.2.2.2.2.2.1) res.2.1, wD dT a_d (a_d_p 0) (a_d_k 0) res.2.2.1, wR dT a_d_p res.2.2.2.1, wR dT a_d_k res.2.2.2.2.1, wK dT a_k v_k, wRw dT res.2.2.2.2.2.1 u res.2.2.2.2.2.2.2]) res.1 (8 * ((B5 - v_r.1))) (96 * ((B5 - v_r.1))) := by
  refine CMi.of (by decide) (Nat.le_of_ble_eq_true rfl) rfl ?_
  intro p e s m args below meth c A C
  unfold f_X1_sizesRound at hf
  have hm5 : v_r.1 ≤ v_r.1 := Nat.le_refl _
  have hb5 : v_r.1 - v_r.1 ≤ B5 - v_r.1 := by omega
  have hg5 : ∀ k, k < v_r.1 → a_r k = a_r k := fun _ _ => rfl
  refine wa_widen (k := (8 * ((v_r.1 - v_r.1)))) (n := (96 * ((v_r.1 - v_r.1)))) (Nat.zero_le _) (Nat.zero_le _) ?_
  refine wa_iconst (v := 0) C 1 dX1_sizesRound_0 rfl rfl ?_
  refine wa_istore_n (lv' := [(0, .ref (a 0)), (1, .int p0), (2, .int (0 : Int32))]) C [1, 2, 0] 2 dX1_sizesRound_1 rfl (Nat.le_of_ble_eq_true rfl) rfl ?_
  exact w_X1_sizesRound_L2 C FUEL (0 : Int32) v v_d v_d_p v_d_k v_r a_r hm5 hb5 hg5 hf
theorem kv_X1_87 : KV RX1 87 yX10_companions cX10_companions 2 (some .int) 1 := KV.mk q539 q540 q541 q3 q542 ⟨by decide, by decide, by decide +kernel⟩
def f_X1_isAsNow_L2 (kp0 : Nat) (z0 : CS) (z1 : Ob) (z2 : Ob) (z3 : Ob) (z4 : Ob) (z5 : FS) : Nat → Int32 → Option (Int32)
  | 0, _ => none
  | n + 1, l2 => grd (decide (kp0 < z5.1)) ((if ((z5.2.2 kp0).1 0) ≤ l2 then some ((1 : Int32)) else grd (decide (kp0 < z5.1)) ((f_X10_companions (z5.2.2 kp0) l2).bind (fun q4 => grd (decide (0 < z5.1)) ((f_X10_companions (z5.2.2 0) l2).bind (fun q7 => (if q4 = q7 then bnd (l2 + 1) (fun x10 => f_X1_isAsNow_L2 kp0 z0 z1 z2 z3 z4 z5 n x10) else some ((0 : Int32)))))))))
def f_X1_isAsNow (v : CS) (v_d : Ob) (v_d_p : Ob) (v_d_k : Ob) (v_k : Ob) (v_r : FS) (kp0 : Nat) : Option (Int32) := f_X1_isAsNow_L2 kp0 v v_d v_d_p v_d_k v_k v_r FUEL (0 : Int32)
set_option maxRecDepth 20000 in
theorem w_X1_isAsNow_L2 {p : Program} {l : Launch} {e : Env} {s : State} {m : MethodId} {args : Array Value} {below : List Frame} {meth : Method} {c : Code} {D : va_G} {A : Nat → Prop} {dT : Nat → ClassId} {a : Nat → Nat} {a_d : Nat → Nat} {a_d_p : Nat → Nat} {a_d_k : Nat → Nat} {a_k : Nat → Nat} {a_r : Nat → Nat → Nat} {kp0 : Nat} {res : Int32} {z0 : CS} {z1 : Ob} {z2 : Ob} {z3 : Ob} {z4 : Ob} {z5 : FS} (C : Cx p s m args meth c cX1_isAsNow 3 RX1 (some .boolean) D A dT) : ∀ (n : Nat) (l2 : Int32), f_X1_isAsNow_L2 kp0 z0 z1 z2 z3 z4 z5 n l2 = some res → WA p l e ({ frames := 2, cells := 0, slots := 0, locals := 44 } : Room) s m args below meth c (MQ below (QI D dT A ([wC dT a (a_d 0) (a_r 0 0) (a_k 0) (pim a_r z5.2.1) z0, wD dT a_d (a_d_p 0) (a_d_k 0) z1, wR dT a_d_p z2, wR dT a_d_k z3, wK dT a_k z4, wRw dT z5.1 a_r z5.2.2]) res) args s 0 0 A) D A 0 0 3 2 ([wC dT a (a_d 0) (a_r 0 0) (a_k 0) (pim a_r z5.2.1) z0, wD dT a_d (a_d_p 0) (a_d_k 0) z1, wR dT a_d_p z2, wR dT a_d_k z3, wK dT a_k z4, wRw dT z5.1 a_r z5.2.2]) [(0, .ref (a 0)), (1, .ref (a_r kp0 0)), (2, .int l2)] [] := by
  intro n
  induction n with
  | zero => intro l2 hf; cases hf
  | succ n ih =>
    intro l2 hf
    unfold f_X1_isAsNow_L2 at hf
    refine wa_iload_n C 2 3 dX1_isAsNow_2 rfl rfl ?_
    refine wa_aload_n C 1 4 dX1_isAsNow_3 rfl rfl ?_
    obtain ⟨g1, hf⟩ := grd_ex hf
    refine wa_openF 5 kp0 (of_decide_eq_true g1) List.not_mem_nil rfl ?_
    refine wa_get C 7 6 0 0 dX1_isAsNow_4 rfl iX10 q55 rfl (Nat.le_of_ble_eq_true rfl) rfl rfl rfl ?_
    refine wa_closeR (ws := [wC dT a (a_d 0) (a_r 0 0) (a_k 0) (pim a_r z5.2.1) z0, wD dT a_d (a_d_p 0) (a_d_k 0) z1, wR dT a_d_p z2, wR dT a_d_k z3, wK dT a_k z4, wRm dT z5.1 [kp0] a_r z5.2.2]) (ws' := [wC dT a (a_d 0) (a_r 0 0) (a_k 0) (pim a_r z5.2.1) z0, wD dT a_d (a_d_p 0) (a_d_k 0) z1, wR dT a_d_p z2, wR dT a_d_k z3, wK dT a_k z4, wRw dT z5.1 a_r z5.2.2]) 5 kp0 (of_decide_eq_true g1) List.not_mem_nil rfl rfl ?_
    refine wa_icmp_ge C 34 10 dX1_isAsNow_7 rfl rfl (fun c2 => ?_) (fun c2 => ?_)
    · replace hf := ite_t hf c2
      refine wa_iconst (v := 1) C 35 dX1_isAsNow_34 rfl rfl ?_
      cases hf
      exact wa_zret C dX1_isAsNow_35 rfl rfl rfl
    · replace hf := ite_f hf c2
      refine wa_aload_n C 1 11 dX1_isAsNow_10 rfl rfl ?_
      refine wa_iload_n C 2 12 dX1_isAsNow_11 rfl rfl ?_
      obtain ⟨g3, hf⟩ := grd_ex hf
      replace g3 := of_decide_eq_true g3
      refine wa_openF 5 kp0 g3 List.not_mem_nil rfl ?_
      obtain ⟨q4, hq4, hf⟩ := bind_ex hf
      refine wa_callVi (b1 := 6) (q1 := 0) (ci := 10) (ws' := [wC dT a (a_d 0) (a_r 0 0) (a_k 0) (pim a_r z5.2.1) z0, wD dT a_d (a_d_p 0) (a_d_k 0) z1, wR dT a_d_p z2, wR dT a_d_k z3, wK dT a_k z4, wRm dT z5.1 [kp0] a_r z5.2.2, wV dT (a_r kp0) (z5.2.2 kp0)]) (As := [.int l2]) C 15 dX1_isAsNow_12 rfl kv_X1_87 (c_X10_companions hq4) ⟨rfl, rfl⟩ ⟨Nat.le_of_ble_eq_true rfl, Nat.le_of_ble_eq_true rfl⟩ rfl rfl rfl [6] [0, 1, 2, 3, 4, 5] [0, 1, 2, 3, 4, 5, 6] rfl rfl rfl rfl (by decide) rfl rfl rfl rfl ⟨Nat.zero_le _, Nat.zero_le _⟩ (Nat.le_of_ble_eq_true rfl) ?_
      refine wa_closeR (ws := [wC dT a (a_d 0) (a_r 0 0) (a_k 0) (pim a_r z5.2.1) z0, wD dT a_d (a_d_p 0) (a_d_k 0) z1, wR dT a_d_p z2, wR dT a_d_k z3, wK dT a_k z4, wRm dT z5.1 [kp0] a_r z5.2.2]) (ws' := [wC dT a (a_d 0) (a_r 0 0) (a_k 0) (pim a_r z5.2.1) z0, wD dT a_d (a_d_p 0) (a_d_k 0) z1, wR dT a_d_p z2, wR dT a_d_k z3, wK dT a_k z4, wRm dT z5.1 [] a_r z5.2.2]) 5 kp0 g3 List.not_mem_nil rfl rfl ?_
      refine wa_ws (ws' := [wC dT a (a_d 0) (a_r 0 0) (a_k 0) (pim a_r z5.2.1) z0, wD dT a_d (a_d_p 0) (a_d_k 0) z1, wR dT a_d_p z2, wR dT a_d_k z3, wK dT a_k z4, wRw dT z5.1 a_r z5.2.2]) rfl ?_
      refine wa_aload_n C 0 16 dX1_isAsNow_15 rfl rfl ?_
      refine wa_get C 19 0 0 1 dX1_isAsNow_16 rfl iX1 q251 rfl (Nat.le_of_ble_eq_true rfl) rfl rfl rfl ?_
      refine wa_iload_n C 2 20 dX1_isAsNow_19 rfl rfl ?_
      obtain ⟨g6, hf⟩ := grd_ex hf
      replace g6 := of_decide_eq_true g6
      refine wa_openF 5 0 g6 List.not_mem_nil rfl ?_
      obtain ⟨q7, hq7, hf⟩ := bind_ex hf
      refine wa_callVi (b1 := 6) (q1 := 0) (ci := 10) (ws' := [wC dT a (a_d 0) (a_r 0 0) (a_k 0) (pim a_r z5.2.1) z0, wD dT a_d (a_d_p 0) (a_d_k 0) z1, wR dT a_d_p z2, wR dT a_d_k z3, wK dT a_k z4, wRm dT z5.1 [0] a_r z5.2.2, wV dT (a_r 0) (z5.2.2 0)]) (As := [.int l2]) C 23 dX1_isAsNow_20 rfl kv_X1_87 (c_X10_companions hq7) ⟨rfl, rfl⟩ ⟨Nat.le_of_ble_eq_true rfl, Nat.le_of_ble_eq_true rfl⟩ rfl rfl rfl [6] [0, 1, 2, 3, 4, 5] [0, 1, 2, 3, 4, 5, 6] rfl rfl rfl rfl (by decide) rfl rfl rfl rfl ⟨Nat.zero_le _, Nat.zero_le _⟩ (Nat.le_of_ble_eq_true rfl) ?_
      refine wa_closeR (ws := [wC dT a (a_d 0) (a_r 0 0) (a_k 0) (pim a_r z5.2.1) z0, wD dT a_d (a_d_p 0) (a_d_k 0) z1, wR dT a_d_p z2, wR dT a_d_k z3, wK dT a_k z4, wRm dT z5.1 [0] a_r z5.2.2]) (ws' := [wC dT a (a_d 0) (a_r 0 0) (a_k 0) (pim a_r z5.2.1) z0, wD dT a_d (a_d_p 0) (a_d_k 0) z1, wR dT a_d_p z2, wR dT a_d_k z3, wK dT a_k z4, wRm dT z5.1 [] a_r z5.2.2]) 5 0 g6 List.not_mem_nil rfl rfl ?_
      refine wa_ws (ws' := [wC dT a (a_d 0) (a_r 0 0) (a_k 0) (pim a_r z5.2.1) z0, wD dT a_d (a_d_p 0) (a_d_k 0) z1, wR dT a_d_p z2, wR dT a_d_k z3, wK dT a_k z4, wRw dT z5.1 a_r z5.2.2]) rfl ?_
      refine wa_icmp_eq C 28 26 dX1_isAsNow_23 rfl rfl (fun c9 => ?_) (fun c9 => ?_)
      · replace hf := ite_t hf c9
        obtain ⟨x10, ex10, hf⟩ := bnd_ex hf
        refine wa_iinc (v := x10) (lv' := [(0, .ref (a 0)), (1, .ref (a_r kp0 0)), (2, .int x10)]) C 2 [1, 2, 0] 31 dX1_isAsNow_28 rfl rfl (by rw [ex10]; rfl) (Nat.le_of_ble_eq_true rfl) rfl ?_
        refine wa_goto C 2 dX1_isAsNow_31 rfl ?_
        exact ih x10 hf
      · replace hf := ite_f hf c9
        refine wa_iconst (v := 0) C 27 dX1_isAsNow_26 rfl rfl ?_
        cases hf
        exact wa_zret C dX1_isAsNow_27 rfl rfl rfl
set_option maxRecDepth 20000 in
theorem c_X1_isAsNow {l : Launch} {D : va_G} {dT : Nat → ClassId} {a : Nat → Nat} {a_d : Nat → Nat} {a_d_p : Nat → Nat} {a_d_k : Nat → Nat} {a_k : Nat → Nat} {a_r : Nat → Nat → Nat} {v : CS} {v_d : Ob} {v_d_p : Ob} {v_d_k : Ob} {v_k : Ob} {v_r : FS} {kp0 : Nat} {res : Int32} (hf : f_X1_isAsNow v v_d v_d_p v_d_k v_k v_r kp0 = some res) : CTi l yX1_isAsNow cX1_isAsNow 3 (some .boolean) ({ frames := 2, cells := 0, slots := 0, locals := 44 } : Room) D dT [.ref (a 0), .ref (a_r kp0 0)] ([wC dT a (a_d 0) (a_r 0 0) (a_k 0) (pim a_r v_r.2.1) v, wD dT a_d (a_d_p 0) (a_d_k 0) v_d, wR dT a_d_p v_d_p, wR dT a_d_k v_d_k, wK dT a_k v_k, wRw dT v_r.1 a_r v_r.2.2]) ([wC dT a (a_d 0) (a_r 0 0) (a_k 0) (pim a_r v_r.2.1) v, wD dT a_d (a_d_p 0) (a_d_k 0) v_d, wR dT a_d_p v_d_p, wR dT a_d_k v_d_k, wK dT a_k v_k, wRw dT v_r.1 a_r v_r.2.2]) res := by
  refine CTi.of (by decide) (Nat.le_of_ble_eq_true rfl) rfl ?_
  intro p e s m args below meth c A C
  unfold f_X1_isAsNow at hf
  refine wa_iconst (v := 0) C 1 dX1_isAsNow_0 rfl rfl ?_
  refine wa_istore_n (lv' := [(0, .ref (a 0)), (1, .ref (a_r kp0 0)), (2, .int (0 : Int32))]) C [1, 2, 0] 2 dX1_isAsNow_1 rfl (Nat.le_of_ble_eq_true rfl) rfl ?_
  exact w_X1_isAsNow_L2 C FUEL (0 : Int32) hf
theorem kv_X1_80 : KV RX1 80 yX1_isAsNow cX1_isAsNow 3 (some .boolean) 1 := KV.mk q535 q537 qs10 q7 q538 ⟨by decide, by decide, by decide +kernel⟩
def f_X1_firstAsNow_L2 (B5 : Nat) (z4 : Ob) : Nat → Int32 → CS → Ob → Ob → Ob → FS → Option (Int32 × CS × Ob × Ob × Ob × FS)
  | 0, _, _, _, _, _, _ => none
  | n + 1, l1, z0, z1, z2, z3, z5 => (if (200 : Int32) < l1 then some ((-1 : Int32), z0, z1, z2, z3, z5) else (f_X1_behind z0 z1 z2 z3 z4 z5 (max z5.1 ((l1).toNatClampNeg + 1)) l1).bind (fun q2 => grd (decide (z5.1 ≤ q2.2.2.2.2.2.1 ∧ q2.2.2.2.2.2.1 = (max z5.1 ((l1).toNatClampNeg + 1)) ∧ (max z5.1 ((l1).toNatClampNeg + 1)) ≤ B5)) ((f_X1_isAsNow q2.2.1 q2.2.2.1 q2.2.2.2.1 q2.2.2.2.2.1 z4 q2.2.2.2.2.2 q2.1).bind (fun q5 => (if q5 = 0 then bnd (l1 + 1) (fun x8 => f_X1_firstAsNow_L2 B5 z4 n x8 q2.2.1 q2.2.2.1 q2.2.2.2.1 q2.2.2.2.2.1 q2.2.2.2.2.2) else some (l1, q2.2.1, q2.2.2.1, q2.2.2.2.1, q2.2.2.2.2.1, q2.2.2.2.2.2))))))
def f_X1_firstAsNow (v : CS) (v_d : Ob) (v_d_p : Ob) (v_d_k : Ob) (v_k : Ob) (v_r : FS) (B5 : Nat) : Option (Int32 × CS × Ob × Ob × Ob × FS) := f_X1_firstAsNow_L2 B5 v_k FUEL (1 : Int32) v v_d v_d_p v_d_k v_r
set_option maxRecDepth 20000 in
theorem w_X1_firstAsNow_L2 {p : Program} {l : Launch} {e : Env} {s : State} {m : MethodId} {args : Array Value} {below : List Frame} {meth : Method} {c : Code} {D : va_G} {A : Nat → Prop} {dT : Nat → ClassId} {a : Nat → Nat} {a_d : Nat → Nat} {a_d_p : Nat → Nat} {a_d_k : Nat → Nat} {a_k : Nat → Nat} {m5 B5 : Nat} {r5 : Nat → Nat → Nat} {res : Int32 × CS × Ob × Ob × Ob × FS} {z4 : Ob} (C : Cx p s m args meth c cX1_firstAsNow 2 RX1 (some .int) D A dT) : ∀ (n : Nat) (l1 : Int32) (z0 : CS) (z1 : Ob) (z2 : Ob) (z3 : Ob) (z5 : FS) (rr5 : Nat → Nat → Nat), m5 ≤ z5.1 → z5.1 - m5 ≤ B5 - m5 → (∀ k, k < m5 → rr5 k = r5 k) → f_X1_firstAsNow_L2 B5 z4 n l1 z0 z1 z2 z3 z5 = some res → WA p l e ({ frames := 7, cells := 8 * ((B5 - m5)), slots := 96 * ((B5 - m5)), locals := 153 } : Room) s m args below meth c (MQ below (va_Qi (fun r9 u => r9 = res.1 ∧ (fun u : (Nat → Nat → Nat) => (∀ k, k < m5 → u k = r5 k)) u) (fun u t => WB D dT A ((fun u : (Nat → Nat → Nat) => [wC dT a (a_d 0) (u 0 0) (a_k 0) (pim u res.2.2.2.2.2.2.1) res.2.1, wD dT a_d (a_d_p 0) (a_d_k 0) res.2.2.1, wR dT a_d_p res.2.2.2.1, wR dT a_d_k res.2.2.2.2.1, wK dT a_k z4, wRw dT res.2.2.2.2.2.1 u res.2.2.2.2.2.2.2]) u) t) A) args s (8 * ((B5 - m5))) (96 * ((B5 - m5))) A) D A (8 * ((z5.1 - m5))) (96 * ((z5.1 - m5))) 2 2 ([wC dT a (a_d 0) (rr5 0 0) (a_k 0) (pim rr5 z5.2.1) z0, wD dT a_d (a_d_p 0) (a_d_k 0) z1, wR dT a_d_p z2, wR dT a_d_k z3, wK dT a_k z4, wRw dT z5.1 rr5 z5.2.2]) [(0, .ref (a 0)), (1, .int l1)] [] := by
  intro n
  induction n with
  | zero => intro l1 z0 z1 z2 z3 z5 rr5 hm5 hb5 hg5 hf; cases hf
  | succ n ih =>
    intro l1 z0 z1 z2 z3 z5 rr5 hm5 hb5 hg5 hf
    unfold f_X1_firstAsNow_L2 at hf
    refine wa_iload_n C 1 3 dX1_firstAsNow_2 rfl rfl ?_
    refine wa_sipush (v := 200) C 6 dX1_firstAsNow_3 rfl rfl ?_
    refine wa_icmp_gt C 29 9 dX1_firstAsNow_6 rfl rfl (fun c1 => ?_) (fun c1 => ?_)
    · replace hf := ite_t hf c1
      refine wa_iconst (v := (-1)) C 30 dX1_firstAsNow_29 rfl rfl ?_
      cases hf
      exact wa_irm C (rr5) dX1_firstAsNow_30 hg5 rfl rfl (by show (8 * ((z5.1 - m5))) ≤ 8 * ((B5 - m5)); omega) (by show (96 * ((z5.1 - m5))) ≤ 96 * ((B5 - m5)); omega)
    · replace hf := ite_f hf c1
      refine wa_aload_n C 0 10 dX1_firstAsNow_9 rfl rfl ?_
      refine wa_aload_n C 0 11 dX1_firstAsNow_10 rfl rfl ?_
      refine wa_iload_n C 1 12 dX1_firstAsNow_11 rfl rfl ?_
      obtain ⟨q2, hq2, hf⟩ := bind_ex hf
      obtain ⟨g3, hf⟩ := grd_ex hf
      replace g3 := of_decide_eq_true g3
      refine wa_callMr (b1 := 0) (q1 := 0) (ci := 1) (As := [.int l1]) C (fun (ru4 : (Nat → Nat → Nat)) => [wC dT a (a_d 0) (ru4 0 0) (a_k 0) (pim ru4 q2.2.2.2.2.2.2.1) q2.2.1, wD dT a_d (a_d_p 0) (a_d_k 0) q2.2.2.1, wR dT a_d_p q2.2.2.2.1, wR dT a_d_k q2.2.2.2.2.1, wK dT a_k z4, wRw dT q2.2.2.2.2.2.1 ru4 q2.2.2.2.2.2.2.2]) 15 dX1_firstAsNow_12 rfl kv_X1_59 (c_X1_behind hq2) ⟨rfl, rfl⟩ ⟨Nat.le_of_ble_eq_true rfl, Nat.le_of_ble_eq_true rfl⟩ rfl rfl rfl [0, 1, 2, 3, 4, 5] [] [0, 1, 2, 3, 4, 5] rfl rfl rfl rfl (by decide) rfl (fun _ => rfl) rfl rfl ⟨by show (8 * ((z5.1 - m5))) + 8 * (((max z5.1 ((l1).toNatClampNeg + 1)) - z5.1)) ≤ 8 * ((B5 - m5)); omega, by show (96 * ((z5.1 - m5))) + 96 * (((max z5.1 ((l1).toNatClampNeg + 1)) - z5.1)) ≤ 96 * ((B5 - m5)); omega⟩ (Nat.le_of_ble_eq_true rfl) (fun ru4 hu => ?_)
      refine wa_widen (k := (8 * ((q2.2.2.2.2.2.1 - m5)))) (n := (96 * ((q2.2.2.2.2.2.1 - m5)))) (by omega) (by omega) ?_
      replace hg5 : ∀ k, k < m5 → ru4 k = r5 k := fun k hk => (hu k (by omega)).trans (hg5 k hk)
      replace hm5 : m5 ≤ q2.2.2.2.2.2.1 := by omega
      replace hb5 : q2.2.2.2.2.2.1 - m5 ≤ B5 - m5 := by omega
      obtain ⟨q5, hq5, hf⟩ := bind_ex hf
      refine wa_callVAi (b1 := 0) (q1 := 0) (ci := 1) (As := [.ref (ru4 q2.1 0)]) C 18 dX1_firstAsNow_15 rfl kv_X1_80 (c_X1_isAsNow hq5) ⟨rfl, rfl⟩ ⟨Nat.le_of_ble_eq_true rfl, Nat.le_of_ble_eq_true rfl⟩ rfl rfl rfl rfl rfl ⟨by show (8 * ((q2.2.2.2.2.2.1 - m5))) ≤ 8 * ((B5 - m5)); omega, by show (96 * ((q2.2.2.2.2.2.1 - m5))) ≤ 96 * ((B5 - m5)); omega⟩ (Nat.le_of_ble_eq_true rfl) ?_
      refine wa_if_eq C 23 21 dX1_firstAsNow_18 rfl rfl (fun c7 => ?_) (fun c7 => ?_)
      · replace hf := ite_t hf c7
        obtain ⟨x8, ex8, hf⟩ := bnd_ex hf
        refine wa_iinc (v := x8) (lv' := [(0, .ref (a 0)), (1, .int x8)]) C 1 [1, 0] 26 dX1_firstAsNow_23 rfl rfl (by rw [ex8]; rfl) (Nat.le_of_ble_eq_true rfl) rfl ?_
        refine wa_goto C 2 dX1_firstAsNow_26 rfl ?_
        exact ih x8 q2.2.1 q2.2.2.1 q2.2.2.2.1 q2.2.2.2.2.1 q2.2.2.2.2.2 ru4 hm5 hb5 hg5 hf
      · replace hf := ite_f hf c7
        refine wa_iload_n C 1 22 dX1_firstAsNow_21 rfl rfl ?_
        cases hf
        exact wa_irm C (ru4) dX1_firstAsNow_22 hg5 rfl rfl (by show (8 * ((q2.2.2.2.2.2.1 - m5))) ≤ 8 * ((B5 - m5)); omega) (by show (96 * ((q2.2.2.2.2.2.1 - m5))) ≤ 96 * ((B5 - m5)); omega)
set_option maxRecDepth 20000 in
theorem c_X1_firstAsNow {l : Launch} {D : va_G} {dT : Nat → ClassId} {a : Nat → Nat} {a_d : Nat → Nat} {a_d_p : Nat → Nat} {a_d_k : Nat → Nat} {a_k : Nat → Nat} {a_r : Nat → Nat → Nat} {v : CS} {v_d : Ob} {v_d_p : Ob} {v_d_k : Ob} {v_k : Ob} {v_r : FS} {B5 : Nat} {res : Int32 × CS × Ob × Ob × Ob × FS} (hf : f_X1_firstAsNow v v_d v_d_p v_d_k v_k v_r B5 = some res) : CMi l yX1_firstAsNow cX1_firstAsNow 2 (some .int) ({ frames := 7, cells := 8 * ((B5 - v_r.1)), slots := 96 * ((B5 - v_r.1)), locals := 153 } : Room) D dT [.ref (a 0)] ([wC dT a (a_d 0) (a_r 0 0) (a_k 0) (pim a_r v_r.2.1) v, wD dT a_d (a_d_p 0) (a_d_k 0) v_d, wR dT a_d_p v_d_p, wR dT a_d_k v_d_k, wK dT a_k v_k, wRw dT v_r.1 a_r v_r.2.2]) (fun u : (Nat → Nat → Nat) => (∀ k, k < v_r.1 → u k = a_r k)) (fun u : (Nat → Nat → Nat) => [wC dT a (a_d 0) (u 0 0) (a_k 0) (pim u res.2.2.2.2.2.2.1) res.2.1, wD dT a_d (a_d_p 0) (a_d_k 0) res.2.2.1, wR dT a_d_p res.2.2.2.1, wR dT a_d_k res.2.2.2.2.1, wK dT a_k v_k, wRw dT res.2.2.2.2.2.1 u res.2.2.2.2.2.2.2]) res.1 (8 * ((B5 - v_r.1))) (96 * ((B5 - v_r.1))) := by
  refine CMi.of (by decide) (Nat.le_of_ble_eq_true rfl) rfl ?_
  intro p e s m args below meth c A C
  unfold f_X1_firstAsNow at hf
  have hm5 : v_r.1 ≤ v_r.1 := Nat.le_refl _
  have hb5 : v_r.1 - v_r.1 ≤ B5 - v_r.1 := by omega
  have hg5 : ∀ k, k < v_r.1 → a_r k = a_r k := fun _ _ => rfl
  refine wa_widen (k := (8 * ((v_r.1 - v_r.1)))) (n := (96 * ((v_r.1 - v_r.1)))) (Nat.zero_le _) (Nat.zero_le _) ?_
  refine wa_iconst (v := 1) C 1 dX1_firstAsNow_0 rfl rfl ?_
  refine wa_istore_n (lv' := [(0, .ref (a 0)), (1, .int (1 : Int32))]) C [1, 0] 2 dX1_firstAsNow_1 rfl (Nat.le_of_ble_eq_true rfl) rfl ?_
  exact w_X1_firstAsNow_L2 C FUEL (1 : Int32) v v_d v_d_p v_d_k v_r a_r hm5 hb5 hg5 hf
theorem kv_X1_90 : KV RX1 90 yX4_clear cX4_clear 1 none 0 := KV.mk q555 q556 q557 q8 q558 ⟨by decide, by decide, by decide +kernel⟩
theorem kv_X1_93 : KV RX1 93 yX4_liveTogether cX4_liveTogether 3 none 1 := KV.mk q560 q561 q562 q8 q563 ⟨by decide, by decide, by decide +kernel⟩
def f_X1_knownWithin_L9 (B5 : Nat) (l1 : Int32) : Nat → Int32 → CS → Ob → Ob → Ob → Ob → FS → Option (CS × Ob × Ob × Ob × Ob × FS)
  | 0, _, _, _, _, _, _, _ => none
  | n + 1, l2, z0, z1, z2, z3, z4, z5 => (if l1 < l2 then some (z0, z1, z2, z3, z4, z5) else (f_X1_behind z0 z1 z2 z3 z4 z5 (max z5.1 ((l2).toNatClampNeg + 1)) l2).bind (fun q4 => grd (decide (z5.1 ≤ q4.2.2.2.2.2.1 ∧ q4.2.2.2.2.2.1 = (max z5.1 ((l2).toNatClampNeg + 1)) ∧ (max z5.1 ((l2).toNatClampNeg + 1)) ≤ B5)) (grd (decide (q4.1 < q4.2.2.2.2.2.1)) ((f_X4_liveTogether z4 (q4.2.2.2.2.2.2.2 q4.1)).bind (fun q8 => bnd (l2 + 1) (fun x10 => f_X1_knownWithin_L9 B5 l1 n x10 q4.2.1 q4.2.2.1 q4.2.2.2.1 q4.2.2.2.2.1 q8 q4.2.2.2.2.2))))))
def f_X1_knownWithin (v : CS) (v_d : Ob) (v_d_p : Ob) (v_d_k : Ob) (v_k : Ob) (v_r : FS) (B5 : Nat) (p0 : Int32) : Option (CS × Ob × Ob × Ob × Ob × FS) := (f_X4_clear v_k).bind (fun q1 => f_X1_knownWithin_L9 B5 p0 FUEL (0 : Int32) v v_d v_d_p v_d_k q1 v_r)
set_option maxRecDepth 20000 in
theorem w_X1_knownWithin_L9 {p : Program} {l : Launch} {e : Env} {s : State} {m : MethodId} {args : Array Value} {below : List Frame} {meth : Method} {c : Code} {D : va_G} {A : Nat → Prop} {dT : Nat → ClassId} {a : Nat → Nat} {a_d : Nat → Nat} {a_d_p : Nat → Nat} {a_d_k : Nat → Nat} {a_k : Nat → Nat} {m5 B5 : Nat} {r5 : Nat → Nat → Nat} {res : CS × Ob × Ob × Ob × Ob × FS} {l1 : Int32} (C : Cx p s m args meth c cX1_knownWithin 3 RX1 (some (.object "NewHouses$Known")) D A dT) : ∀ (n : Nat) (l2 : Int32) (z0 : CS) (z1 : Ob) (z2 : Ob) (z3 : Ob) (z4 : Ob) (z5 : FS) (rr5 : Nat → Nat → Nat), m5 ≤ z5.1 → z5.1 - m5 ≤ B5 - m5 → (∀ k, k < m5 → rr5 k = r5 k) → f_X1_knownWithin_L9 B5 l1 n l2 z0 z1 z2 z3 z4 z5 = some res → WA p l e ({ frames := 7, cells := 8 * ((B5 - m5)), slots := 96 * ((B5 - m5)), locals := 153 } : Room) s m args below meth c (MQ below (va_Qr (fun u : (Nat → Nat → Nat) => (∀ k, k < m5 → u k = r5 k)) (fun u a9 t => a9 = (fun _ : (Nat → Nat → Nat) => a_k 0) u ∧ WB D dT A ((fun u : (Nat → Nat → Nat) => [wC dT a (a_d 0) (u 0 0) (a_k 0) (pim u res.2.2.2.2.2.2.1) res.1, wD dT a_d (a_d_p 0) (a_d_k 0) res.2.1, wR dT a_d_p res.2.2.1, wR dT a_d_k res.2.2.2.1, wK dT a_k res.2.2.2.2.1, wRw dT res.2.2.2.2.2.1 u res.2.2.2.2.2.2.2]) u) t) A) args s (8 * ((B5 - m5))) (96 * ((B5 - m5))) A) D A (8 * ((z5.1 - m5))) (96 * ((z5.1 - m5))) 3 9 ([wC dT a (a_d 0) (rr5 0 0) (a_k 0) (pim rr5 z5.2.1) z0, wD dT a_d (a_d_p 0) (a_d_k 0) z1, wR dT a_d_p z2, wR dT a_d_k z3, wK dT a_k z4, wRw dT z5.1 rr5 z5.2.2]) [(0, .ref (a 0)), (1, .int l1), (2, .int l2)] [] := by
  intro n
  induction n with
  | zero => intro l2 z0 z1 z2 z3 z4 z5 rr5 hm5 hb5 hg5 hf; cases hf
  | succ n ih =>
    intro l2 z0 z1 z2 z3 z4 z5 rr5 hm5 hb5 hg5 hf
    unfold f_X1_knownWithin_L9 at hf
    refine wa_iload_n C 2 10 dX1_knownWithin_9 rfl rfl ?_
    refine wa_iload_n C 1 11 dX1_knownWithin_10 rfl rfl ?_
    refine wa_icmp_gt C 32 14 dX1_knownWithin_11 rfl rfl (fun c3 => ?_) (fun c3 => ?_)
    · replace hf := ite_t hf c3
      refine wa_aload_n C 0 33 dX1_knownWithin_32 rfl rfl ?_
      refine wa_get C 36 0 0 5 dX1_knownWithin_33 rfl iX1 q255 rfl (Nat.le_of_ble_eq_true rfl) rfl rfl rfl ?_
      cases hf
      exact wa_arm C (rr5) dX1_knownWithin_36 hg5 rfl rfl (by show (8 * ((z5.1 - m5))) ≤ 8 * ((B5 - m5)); omega) (by show (96 * ((z5.1 - m5))) ≤ 96 * ((B5 - m5)); omega)
    · replace hf := ite_f hf c3
      refine wa_aload_n C 0 15 dX1_knownWithin_14 rfl rfl ?_
      refine wa_get C 18 0 0 5 dX1_knownWithin_15 rfl iX1 q255 rfl (Nat.le_of_ble_eq_true rfl) rfl rfl rfl ?_
      refine wa_aload_n C 0 19 dX1_knownWithin_18 rfl rfl ?_
      refine wa_iload_n C 2 20 dX1_knownWithin_19 rfl rfl ?_
      obtain ⟨q4, hq4, hf⟩ := bind_ex hf
      obtain ⟨g5, hf⟩ := grd_ex hf
      replace g5 := of_decide_eq_true g5
      refine wa_callMr (b1 := 0) (q1 := 0) (ci := 1) (As := [.int l2]) C (fun (ru6 : (Nat → Nat → Nat)) => [wC dT a (a_d 0) (ru6 0 0) (a_k 0) (pim ru6 q4.2.2.2.2.2.2.1) q4.2.1, wD dT a_d (a_d_p 0) (a_d_k 0) q4.2.2.1, wR dT a_d_p q4.2.2.2.1, wR dT a_d_k q4.2.2.2.2.1, wK dT a_k z4, wRw dT q4.2.2.2.2.2.1 ru6 q4.2.2.2.2.2.2.2]) 23 dX1_knownWithin_20 rfl kv_X1_59 (c_X1_behind hq4) ⟨rfl, rfl⟩ ⟨Nat.le_of_ble_eq_true rfl, Nat.le_of_ble_eq_true rfl⟩ rfl rfl rfl [0, 1, 2, 3, 4, 5] [] [0, 1, 2, 3, 4, 5] rfl rfl rfl rfl (by decide) rfl (fun _ => rfl) rfl rfl ⟨by show (8 * ((z5.1 - m5))) + 8 * (((max z5.1 ((l2).toNatClampNeg + 1)) - z5.1)) ≤ 8 * ((B5 - m5)); omega, by show (96 * ((z5.1 - m5))) + 96 * (((max z5.1 ((l2).toNatClampNeg + 1)) - z5.1)) ≤ 96 * ((B5 - m5)); omega⟩ (Nat.le_of_ble_eq_true rfl) (fun ru6 hu => ?_)
      refine wa_widen (k := (8 * ((q4.2.2.2.2.2.1 - m5)))) (n := (96 * ((q4.2.2.2.2.2.1 - m5)))) (by omega) (by omega) ?_
      replace hg5 : ∀ k, k < m5 → ru6 k = r5 k := fun k hk => (hu k (by omega)).trans (hg5 k hk)
      replace hm5 : m5 ≤ q4.2.2.2.2.2.1 := by omega
      replace hb5 : q4.2.2.2.2.2.1 - m5 ≤ B5 - m5 := by omega
      obtain ⟨g7, hf⟩ := grd_ex hf
      replace g7 := of_decide_eq_true g7
      refine wa_openF 5 q4.1 g7 List.not_mem_nil rfl ?_
      obtain ⟨q8, hq8, hf⟩ := bind_ex hf
      refine wa_callVv (b1 := 4) (q1 := 0) (ci := 4) (ws' := [wC dT a (a_d 0) (ru6 0 0) (a_k 0) (pim ru6 q4.2.2.2.2.2.2.1) q4.2.1, wD dT a_d (a_d_p 0) (a_d_k 0) q4.2.2.1, wR dT a_d_p q4.2.2.2.1, wR dT a_d_k q4.2.2.2.2.1, wK dT a_k q8, wRm dT q4.2.2.2.2.2.1 [q4.1] ru6 q4.2.2.2.2.2.2.2, wV dT (ru6 q4.1) (q4.2.2.2.2.2.2.2 q4.1)]) (As := [.ref (ru6 q4.1 0)]) C 26 dX1_knownWithin_23 rfl kv_X1_93 (c_X4_liveTogether hq8) ⟨rfl, rfl⟩ ⟨Nat.le_of_ble_eq_true rfl, Nat.le_of_ble_eq_true rfl⟩ rfl rfl rfl [4, 6] [0, 1, 2, 3, 5] [0, 1, 2, 3, 5, 4, 6] rfl rfl rfl rfl (by decide) rfl rfl rfl rfl ⟨by show (8 * ((q4.2.2.2.2.2.1 - m5))) ≤ 8 * ((B5 - m5)); omega, by show (96 * ((q4.2.2.2.2.2.1 - m5))) ≤ 96 * ((B5 - m5)); omega⟩ (Nat.le_of_ble_eq_true rfl) ?_
      refine wa_closeR (ws := [wC dT a (a_d 0) (ru6 0 0) (a_k 0) (pim ru6 q4.2.2.2.2.2.2.1) q4.2.1, wD dT a_d (a_d_p 0) (a_d_k 0) q4.2.2.1, wR dT a_d_p q4.2.2.2.1, wR dT a_d_k q4.2.2.2.2.1, wK dT a_k q8, wRm dT q4.2.2.2.2.2.1 [q4.1] ru6 q4.2.2.2.2.2.2.2]) (ws' := [wC dT a (a_d 0) (ru6 0 0) (a_k 0) (pim ru6 q4.2.2.2.2.2.2.1) q4.2.1, wD dT a_d (a_d_p 0) (a_d_k 0) q4.2.2.1, wR dT a_d_p q4.2.2.2.1, wR dT a_d_k q4.2.2.2.2.1, wK dT a_k q8, wRm dT q4.2.2.2.2.2.1 [] ru6 q4.2.2.2.2.2.2.2]) 5 q4.1 g7 List.not_mem_nil rfl rfl ?_
      refine wa_ws (ws' := [wC dT a (a_d 0) (ru6 0 0) (a_k 0) (pim ru6 q4.2.2.2.2.2.2.1) q4.2.1, wD dT a_d (a_d_p 0) (a_d_k 0) q4.2.2.1, wR dT a_d_p q4.2.2.2.1, wR dT a_d_k q4.2.2.2.2.1, wK dT a_k q8, wRw dT q4.2.2.2.2.2.1 ru6 q4.2.2.2.2.2.2.2]) rfl ?_
      obtain ⟨x10, ex10, hf⟩ := bnd_ex hf
      refine wa_iinc (v := x10) (lv' := [(0, .ref (a 0)), (1, .int l1), (2, .int x10)]) C 2 [1, 2, 0] 29 dX1_knownWithin_26 rfl rfl (by rw [ex10]; rfl) (Nat.le_of_ble_eq_true rfl) rfl ?_
      refine wa_goto C 9 dX1_knownWithin_29 rfl ?_
      exact ih x10 q4.2.1 q4.2.2.1 q4.2.2.2.1 q4.2.2.2.2.1 q8 q4.2.2.2.2.2 ru6 hm5 hb5 hg5 hf
set_option maxRecDepth 20000 in
theorem c_X1_knownWithin {l : Launch} {D : va_G} {dT : Nat → ClassId} {a : Nat → Nat} {a_d : Nat → Nat} {a_d_p : Nat → Nat} {a_d_k : Nat → Nat} {a_k : Nat → Nat} {a_r : Nat → Nat → Nat} {v : CS} {v_d : Ob} {v_d_p : Ob} {v_d_k : Ob} {v_k : Ob} {v_r : FS} {B5 : Nat} {p0 : Int32} {res : CS × Ob × Ob × Ob × Ob × FS} (hf : f_X1_knownWithin v v_d v_d_p v_d_k v_k v_r B5 p0 = some res) : CMr l yX1_knownWithin cX1_knownWithin 3 (some (.object "NewHouses$Known")) ({ frames := 7, cells := 8 * ((B5 - v_r.1)), slots := 96 * ((B5 - v_r.1)), locals := 153 } : Room) D dT [.ref (a 0), .int p0] ([wC dT a (a_d 0) (a_r 0 0) (a_k 0) (pim a_r v_r.2.1) v, wD dT a_d (a_d_p 0) (a_d_k 0) v_d, wR dT a_d_p v_d_p, wR dT a_d_k v_d_k, wK dT a_k v_k, wRw dT v_r.1 a_r v_r.2.2]) (fun u : (Nat → Nat → Nat) => (∀ k, k < v_r.1 → u k = a_r k)) (fun u : (Nat → Nat → Nat) => [wC dT a (a_d 0) (u 0 0) (a_k 0) (pim u res.2.2.2.2.2.2.1) res.1, wD dT a_d (a_d_p 0) (a_d_k 0) res.2.1, wR dT a_d_p res.2.2.1, wR dT a_d_k res.2.2.2.1, wK dT a_k res.2.2.2.2.1, wRw dT res.2.2.2.2.2.1 u res.2.2.2.2.2.2.2]) (fun _ : (Nat → Nat → Nat) => a_k 0) (8 * ((B5 - v_r.1))) (96 * ((B5 - v_r.1))) := by
  refine CMr.of (by decide) (Nat.le_of_ble_eq_true rfl) rfl ?_
  intro p e s m args below meth c A C
  unfold f_X1_knownWithin at hf
  have hm5 : v_r.1 ≤ v_r.1 := Nat.le_refl _
  have hb5 : v_r.1 - v_r.1 ≤ B5 - v_r.1 := by omega
  have hg5 : ∀ k, k < v_r.1 → a_r k = a_r k := fun _ _ => rfl
  refine wa_widen (k := (8 * ((v_r.1 - v_r.1)))) (n := (96 * ((v_r.1 - v_r.1)))) (Nat.zero_le _) (Nat.zero_le _) ?_
  refine wa_aload_n C 0 1 dX1_knownWithin_0 rfl rfl ?_
  refine wa_get C 4 0 0 5 dX1_knownWithin_1 rfl iX1 q255 rfl (Nat.le_of_ble_eq_true rfl) rfl rfl rfl ?_
  obtain ⟨q1, hq1, hf⟩ := bind_ex hf
  refine wa_callVv (b1 := 4) (q1 := 0) (ci := 4) (ws' := [wC dT a (a_d 0) (a_r 0 0) (a_k 0) (pim a_r v_r.2.1) v, wD dT a_d (a_d_p 0) (a_d_k 0) v_d, wR dT a_d_p v_d_p, wR dT a_d_k v_d_k, wK dT a_k q1, wRw dT v_r.1 a_r v_r.2.2]) (As := []) C 7 dX1_knownWithin_4 rfl kv_X1_90 (c_X4_clear hq1) ⟨rfl, rfl⟩ ⟨Nat.le_of_ble_eq_true rfl, Nat.le_of_ble_eq_true rfl⟩ rfl rfl rfl [4] [0, 1, 2, 3, 5] [0, 1, 2, 3, 5, 4] rfl rfl rfl rfl (by decide) rfl rfl rfl rfl ⟨by show (8 * ((v_r.1 - v_r.1))) ≤ 8 * ((B5 - v_r.1)); omega, by show (96 * ((v_r.1 - v_r.1))) ≤ 96 * ((B5 - v_r.1)); omega⟩ (Nat.le_of_ble_eq_true rfl) ?_
  refine wa_iconst (v := 0) C 8 dX1_knownWithin_7 rfl rfl ?_
  refine wa_istore_n (lv' := [(0, .ref (a 0)), (1, .int p0), (2, .int (0 : Int32))]) C [1, 2, 0] 9 dX1_knownWithin_8 rfl (Nat.le_of_ble_eq_true rfl) rfl ?_
  exact w_X1_knownWithin_L9 C FUEL (0 : Int32) v v_d v_d_p v_d_k q1 v_r a_r hm5 hb5 hg5 hf
theorem kv_X1_96 : KV RX1 96 yX4_isAll cX4_isAll 3 (some .boolean) 1 := KV.mk q564 q565 q566 q8 q567 ⟨by decide, by decide, by decide +kernel⟩
def f_X1_untilAllKnown_L9 (B5 : Nat) : Nat → Int32 → CS → Ob → Ob → Ob → Ob → FS → Option (Int32 × CS × Ob × Ob × Ob × Ob × FS)
  | 0, _, _, _, _, _, _, _ => none
  | n + 1, l1, z0, z1, z2, z3, z4, z5 => (if (100 : Int32) < l1 then some ((-1 : Int32), z0, z1, z2, z3, z4, z5) else (f_X1_behind z0 z1 z2 z3 z4 z5 (max z5.1 ((l1).toNatClampNeg + 1)) l1).bind (fun q4 => grd (decide (z5.1 ≤ q4.2.2.2.2.2.1 ∧ q4.2.2.2.2.2.1 = (max z5.1 ((l1).toNatClampNeg + 1)) ∧ (max z5.1 ((l1).toNatClampNeg + 1)) ≤ B5)) (grd (decide (q4.1 < q4.2.2.2.2.2.1)) ((f_X4_liveTogether z4 (q4.2.2.2.2.2.2.2 q4.1)).bind (fun q8 => grd (decide (0 < q4.2.2.2.2.2.1)) ((f_X4_isAll q8 ((q4.2.2.2.2.2.2.2 0).1 0)).bind (fun q11 => (if q11 = 0 then bnd (l1 + 1) (fun x14 => f_X1_untilAllKnown_L9 B5 n x14 q4.2.1 q4.2.2.1 q4.2.2.2.1 q4.2.2.2.2.1 q8 q4.2.2.2.2.2) else some (l1, q4.2.1, q4.2.2.1, q4.2.2.2.1, q4.2.2.2.2.1, q8, q4.2.2.2.2.2)))))))))
def f_X1_untilAllKnown (v : CS) (v_d : Ob) (v_d_p : Ob) (v_d_k : Ob) (v_k : Ob) (v_r : FS) (B5 : Nat) : Option (Int32 × CS × Ob × Ob × Ob × Ob × FS) := (f_X4_clear v_k).bind (fun q1 => f_X1_untilAllKnown_L9 B5 FUEL (0 : Int32) v v_d v_d_p v_d_k q1 v_r)
set_option maxRecDepth 20000 in
theorem w_X1_untilAllKnown_L9 {p : Program} {l : Launch} {e : Env} {s : State} {m : MethodId} {args : Array Value} {below : List Frame} {meth : Method} {c : Code} {D : va_G} {A : Nat → Prop} {dT : Nat → ClassId} {a : Nat → Nat} {a_d : Nat → Nat} {a_d_p : Nat → Nat} {a_d_k : Nat → Nat} {a_k : Nat → Nat} {m5 B5 : Nat} {r5 : Nat → Nat → Nat} {res : Int32 × CS × Ob × Ob × Ob × Ob × FS} (C : Cx p s m args meth c cX1_untilAllKnown 2 RX1 (some .int) D A dT) : ∀ (n : Nat) (l1 : Int32) (z0 : CS) (z1 : Ob) (z2 : Ob) (z3 : Ob) (z4 : Ob) (z5 : FS) (rr5 : Nat → Nat → Nat), m5 ≤ z5.1 → z5.1 - m5 ≤ B5 - m5 → (∀ k, k < m5 → rr5 k = r5 k) → f_X1_untilAllKnown_L9 B5 n l1 z0 z1 z2 z3 z4 z5 = some res → WA p l e ({ frames := 7, cells := 8 * ((B5 - m5)), slots := 96 * ((B5 - m5)), locals := 153 } : Room) s m args below meth c (MQ below (va_Qi (fun r9 u => r9 = res.1 ∧ (fun u : (Nat → Nat → Nat) => (∀ k, k < m5 → u k = r5 k)) u) (fun u t => WB D dT A ((fun u : (Nat → Nat → Nat) => [wC dT a (a_d 0) (u 0 0) (a_k 0) (pim u res.2.2.2.2.2.2.2.1) res.2.1, wD dT a_d (a_d_p 0) (a_d_k 0) res.2.2.1, wR dT a_d_p res.2.2.2.1, wR dT a_d_k res.2.2.2.2.1, wK dT a_k res.2.2.2.2.2.1, wRw dT res.2.2.2.2.2.2.1 u res.2.2.2.2.2.2.2.2]) u) t) A) args s (8 * ((B5 - m5))) (96 * ((B5 - m5))) A) D A (8 * ((z5.1 - m5))) (96 * ((z5.1 - m5))) 2 9 ([wC dT a (a_d 0) (rr5 0 0) (a_k 0) (pim rr5 z5.2.1) z0, wD dT a_d (a_d_p 0) (a_d_k 0) z1, wR dT a_d_p z2, wR dT a_d_k z3, wK dT a_k z4, wRw dT z5.1 rr5 z5.2.2]) [(0, .ref (a 0)), (1, .int l1)] [] := by
  intro n
  induction n with
  | zero => intro l1 z0 z1 z2 z3 z4 z5 rr5 hm5 hb5 hg5 hf; cases hf
  | succ n ih =>
    intro l1 z0 z1 z2 z3 z4 z5 rr5 hm5 hb5 hg5 hf
    unfold f_X1_untilAllKnown_L9 at hf
    refine wa_iload_n C 1 10 dX1_untilAllKnown_9 rfl rfl ?_
    refine wa_bipush (v := 100) C 12 dX1_untilAllKnown_10 rfl rfl ?_
    refine wa_icmp_gt C 52 15 dX1_untilAllKnown_12 rfl rfl (fun c3 => ?_) (fun c3 => ?_)
    · replace hf := ite_t hf c3
      refine wa_iconst (v := (-1)) C 53 dX1_untilAllKnown_52 rfl rfl ?_
      cases hf
      exact wa_irm C (rr5) dX1_untilAllKnown_53 hg5 rfl rfl (by show (8 * ((z5.1 - m5))) ≤ 8 * ((B5 - m5)); omega) (by show (96 * ((z5.1 - m5))) ≤ 96 * ((B5 - m5)); omega)
    · replace hf := ite_f hf c3
      refine wa_aload_n C 0 16 dX1_untilAllKnown_15 rfl rfl ?_
      refine wa_get C 19 0 0 5 dX1_untilAllKnown_16 rfl iX1 q255 rfl (Nat.le_of_ble_eq_true rfl) rfl rfl rfl ?_
      refine wa_aload_n C 0 20 dX1_untilAllKnown_19 rfl rfl ?_
      refine wa_iload_n C 1 21 dX1_untilAllKnown_20 rfl rfl ?_
      obtain ⟨q4, hq4, hf⟩ := bind_ex hf
      obtain ⟨g5, hf⟩ := grd_ex hf
      replace g5 := of_decide_eq_true g5
      refine wa_callMr (b1 := 0) (q1 := 0) (ci := 1) (As := [.int l1]) C (fun (ru6 : (Nat → Nat → Nat)) => [wC dT a (a_d 0) (ru6 0 0) (a_k 0) (pim ru6 q4.2.2.2.2.2.2.1) q4.2.1, wD dT a_d (a_d_p 0) (a_d_k 0) q4.2.2.1, wR dT a_d_p q4.2.2.2.1, wR dT a_d_k q4.2.2.2.2.1, wK dT a_k z4, wRw dT q4.2.2.2.2.2.1 ru6 q4.2.2.2.2.2.2.2]) 24 dX1_untilAllKnown_21 rfl kv_X1_59 (c_X1_behind hq4) ⟨rfl, rfl⟩ ⟨Nat.le_of_ble_eq_true rfl, Nat.le_of_ble_eq_true rfl⟩ rfl rfl rfl [0, 1, 2, 3, 4, 5] [] [0, 1, 2, 3, 4, 5] rfl rfl rfl rfl (by decide) rfl (fun _ => rfl) rfl rfl ⟨by show (8 * ((z5.1 - m5))) + 8 * (((max z5.1 ((l1).toNatClampNeg + 1)) - z5.1)) ≤ 8 * ((B5 - m5)); omega, by show (96 * ((z5.1 - m5))) + 96 * (((max z5.1 ((l1).toNatClampNeg + 1)) - z5.1)) ≤ 96 * ((B5 - m5)); omega⟩ (Nat.le_of_ble_eq_true rfl) (fun ru6 hu => ?_)
      refine wa_widen (k := (8 * ((q4.2.2.2.2.2.1 - m5)))) (n := (96 * ((q4.2.2.2.2.2.1 - m5)))) (by omega) (by omega) ?_
      replace hg5 : ∀ k, k < m5 → ru6 k = r5 k := fun k hk => (hu k (by omega)).trans (hg5 k hk)
      replace hm5 : m5 ≤ q4.2.2.2.2.2.1 := by omega
      replace hb5 : q4.2.2.2.2.2.1 - m5 ≤ B5 - m5 := by omega
      obtain ⟨g7, hf⟩ := grd_ex hf
      replace g7 := of_decide_eq_true g7
      refine wa_openF 5 q4.1 g7 List.not_mem_nil rfl ?_
      obtain ⟨q8, hq8, hf⟩ := bind_ex hf
      refine wa_callVv (b1 := 4) (q1 := 0) (ci := 4) (ws' := [wC dT a (a_d 0) (ru6 0 0) (a_k 0) (pim ru6 q4.2.2.2.2.2.2.1) q4.2.1, wD dT a_d (a_d_p 0) (a_d_k 0) q4.2.2.1, wR dT a_d_p q4.2.2.2.1, wR dT a_d_k q4.2.2.2.2.1, wK dT a_k q8, wRm dT q4.2.2.2.2.2.1 [q4.1] ru6 q4.2.2.2.2.2.2.2, wV dT (ru6 q4.1) (q4.2.2.2.2.2.2.2 q4.1)]) (As := [.ref (ru6 q4.1 0)]) C 27 dX1_untilAllKnown_24 rfl kv_X1_93 (c_X4_liveTogether hq8) ⟨rfl, rfl⟩ ⟨Nat.le_of_ble_eq_true rfl, Nat.le_of_ble_eq_true rfl⟩ rfl rfl rfl [4, 6] [0, 1, 2, 3, 5] [0, 1, 2, 3, 5, 4, 6] rfl rfl rfl rfl (by decide) rfl rfl rfl rfl ⟨by show (8 * ((q4.2.2.2.2.2.1 - m5))) ≤ 8 * ((B5 - m5)); omega, by show (96 * ((q4.2.2.2.2.2.1 - m5))) ≤ 96 * ((B5 - m5)); omega⟩ (Nat.le_of_ble_eq_true rfl) ?_
      refine wa_closeR (ws := [wC dT a (a_d 0) (ru6 0 0) (a_k 0) (pim ru6 q4.2.2.2.2.2.2.1) q4.2.1, wD dT a_d (a_d_p 0) (a_d_k 0) q4.2.2.1, wR dT a_d_p q4.2.2.2.1, wR dT a_d_k q4.2.2.2.2.1, wK dT a_k q8, wRm dT q4.2.2.2.2.2.1 [q4.1] ru6 q4.2.2.2.2.2.2.2]) (ws' := [wC dT a (a_d 0) (ru6 0 0) (a_k 0) (pim ru6 q4.2.2.2.2.2.2.1) q4.2.1, wD dT a_d (a_d_p 0) (a_d_k 0) q4.2.2.1, wR dT a_d_p q4.2.2.2.1, wR dT a_d_k q4.2.2.2.2.1, wK dT a_k q8, wRm dT q4.2.2.2.2.2.1 [] ru6 q4.2.2.2.2.2.2.2]) 5 q4.1 g7 List.not_mem_nil rfl rfl ?_
      refine wa_ws (ws' := [wC dT a (a_d 0) (ru6 0 0) (a_k 0) (pim ru6 q4.2.2.2.2.2.2.1) q4.2.1, wD dT a_d (a_d_p 0) (a_d_k 0) q4.2.2.1, wR dT a_d_p q4.2.2.2.1, wR dT a_d_k q4.2.2.2.2.1, wK dT a_k q8, wRw dT q4.2.2.2.2.2.1 ru6 q4.2.2.2.2.2.2.2]) rfl ?_
      refine wa_aload_n C 0 28 dX1_untilAllKnown_27 rfl rfl ?_
      refine wa_get C 31 0 0 5 dX1_untilAllKnown_28 rfl iX1 q255 rfl (Nat.le_of_ble_eq_true rfl) rfl rfl rfl ?_
      refine wa_aload_n C 0 32 dX1_untilAllKnown_31 rfl rfl ?_
      refine wa_get C 35 0 0 1 dX1_untilAllKnown_32 rfl iX1 q251 rfl (Nat.le_of_ble_eq_true rfl) rfl rfl rfl ?_
      obtain ⟨g10, hf⟩ := grd_ex hf
      refine wa_openF 5 0 (of_decide_eq_true g10) List.not_mem_nil rfl ?_
      refine wa_get C 38 6 0 0 dX1_untilAllKnown_35 rfl iX10 q55 rfl (Nat.le_of_ble_eq_true rfl) rfl rfl rfl ?_
      refine wa_closeR (ws := [wC dT a (a_d 0) (ru6 0 0) (a_k 0) (pim ru6 q4.2.2.2.2.2.2.1) q4.2.1, wD dT a_d (a_d_p 0) (a_d_k 0) q4.2.2.1, wR dT a_d_p q4.2.2.2.1, wR dT a_d_k q4.2.2.2.2.1, wK dT a_k q8, wRm dT q4.2.2.2.2.2.1 [0] ru6 q4.2.2.2.2.2.2.2]) (ws' := [wC dT a (a_d 0) (ru6 0 0) (a_k 0) (pim ru6 q4.2.2.2.2.2.2.1) q4.2.1, wD dT a_d (a_d_p 0) (a_d_k 0) q4.2.2.1, wR dT a_d_p q4.2.2.2.1, wR dT a_d_k q4.2.2.2.2.1, wK dT a_k q8, wRw dT q4.2.2.2.2.2.1 ru6 q4.2.2.2.2.2.2.2]) 5 0 (of_decide_eq_true g10) List.not_mem_nil rfl rfl ?_
      obtain ⟨q11, hq11, hf⟩ := bind_ex hf
      refine wa_callVi (b1 := 4) (q1 := 0) (ci := 4) (ws' := [wC dT a (a_d 0) (ru6 0 0) (a_k 0) (pim ru6 q4.2.2.2.2.2.2.1) q4.2.1, wD dT a_d (a_d_p 0) (a_d_k 0) q4.2.2.1, wR dT a_d_p q4.2.2.2.1, wR dT a_d_k q4.2.2.2.2.1, wK dT a_k q8, wRw dT q4.2.2.2.2.2.1 ru6 q4.2.2.2.2.2.2.2]) (As := [.int ((q4.2.2.2.2.2.2.2 0).1 0)]) C 41 dX1_untilAllKnown_38 rfl kv_X1_96 (c_X4_isAll hq11) ⟨rfl, rfl⟩ ⟨Nat.le_of_ble_eq_true rfl, Nat.le_of_ble_eq_true rfl⟩ rfl rfl rfl [4] [0, 1, 2, 3, 5] [0, 1, 2, 3, 5, 4] rfl rfl rfl rfl (by decide) rfl rfl rfl rfl ⟨by show (8 * ((q4.2.2.2.2.2.1 - m5))) ≤ 8 * ((B5 - m5)); omega, by show (96 * ((q4.2.2.2.2.2.1 - m5))) ≤ 96 * ((B5 - m5)); omega⟩ (Nat.le_of_ble_eq_true rfl) ?_
      refine wa_if_eq C 46 44 dX1_untilAllKnown_41 rfl rfl (fun c13 => ?_) (fun c13 => ?_)
      · replace hf := ite_t hf c13
        obtain ⟨x14, ex14, hf⟩ := bnd_ex hf
        refine wa_iinc (v := x14) (lv' := [(0, .ref (a 0)), (1, .int x14)]) C 1 [1, 0] 49 dX1_untilAllKnown_46 rfl rfl (by rw [ex14]; rfl) (Nat.le_of_ble_eq_true rfl) rfl ?_
        refine wa_goto C 9 dX1_untilAllKnown_49 rfl ?_
        exact ih x14 q4.2.1 q4.2.2.1 q4.2.2.2.1 q4.2.2.2.2.1 q8 q4.2.2.2.2.2 ru6 hm5 hb5 hg5 hf
      · replace hf := ite_f hf c13
        refine wa_iload_n C 1 45 dX1_untilAllKnown_44 rfl rfl ?_
        cases hf
        exact wa_irm C (ru6) dX1_untilAllKnown_45 hg5 rfl rfl (by show (8 * ((q4.2.2.2.2.2.1 - m5))) ≤ 8 * ((B5 - m5)); omega) (by show (96 * ((q4.2.2.2.2.2.1 - m5))) ≤ 96 * ((B5 - m5)); omega)
set_option maxRecDepth 20000 in
theorem c_X1_untilAllKnown {l : Launch} {D : va_G} {dT : Nat → ClassId} {a : Nat → Nat} {a_d : Nat → Nat} {a_d_p : Nat → Nat} {a_d_k : Nat → Nat} {a_k : Nat → Nat} {a_r : Nat → Nat → Nat} {v : CS} {v_d : Ob} {v_d_p : Ob} {v_d_k : Ob} {v_k : Ob} {v_r : FS} {B5 : Nat} {res : Int32 × CS × Ob × Ob × Ob × Ob × FS} (hf : f_X1_untilAllKnown v v_d v_d_p v_d_k v_k v_r B5 = some res) : CMi l yX1_untilAllKnown cX1_untilAllKnown 2 (some .int) ({ frames := 7, cells := 8 * ((B5 - v_r.1)), slots := 96 * ((B5 - v_r.1)), locals := 153 } : Room) D dT [.ref (a 0)] ([wC dT a (a_d 0) (a_r 0 0) (a_k 0) (pim a_r v_r.2.1) v, wD dT a_d (a_d_p 0) (a_d_k 0) v_d, wR dT a_d_p v_d_p, wR dT a_d_k v_d_k, wK dT a_k v_k, wRw dT v_r.1 a_r v_r.2.2]) (fun u : (Nat → Nat → Nat) => (∀ k, k < v_r.1 → u k = a_r k)) (fun u : (Nat → Nat → Nat) => [wC dT a (a_d 0) (u 0 0) (a_k 0) (pim u res.2.2.2.2.2.2.2.1) res.2.1, wD dT a_d (a_d_p 0) (a_d_k 0) res.2.2.1, wR dT a_d_p res.2.2.2.1, wR dT a_d_k res.2.2.2.2.1, wK dT a_k res.2.2.2.2.2.1, wRw dT res.2.2.2.2.2.2.1 u res.2.2.2.2.2.2.2.2]) res.1 (8 * ((B5 - v_r.1))) (96 * ((B5 - v_r.1))) := by
  refine CMi.of (by decide) (Nat.le_of_ble_eq_true rfl) rfl ?_
  intro p e s m args below meth c A C
  unfold f_X1_untilAllKnown at hf
  have hm5 : v_r.1 ≤ v_r.1 := Nat.le_refl _
  have hb5 : v_r.1 - v_r.1 ≤ B5 - v_r.1 := by omega
  have hg5 : ∀ k, k < v_r.1 → a_r k = a_r k := fun _ _ => rfl
  refine wa_widen (k := (8 * ((v_r.1 - v_r.1)))) (n := (96 * ((v_r.1 - v_r.1)))) (Nat.zero_le _) (Nat.zero_le _) ?_
  refine wa_aload_n C 0 1 dX1_untilAllKnown_0 rfl rfl ?_
  refine wa_get C 4 0 0 5 dX1_untilAllKnown_1 rfl iX1 q255 rfl (Nat.le_of_ble_eq_true rfl) rfl rfl rfl ?_
  obtain ⟨q1, hq1, hf⟩ := bind_ex hf
  refine wa_callVv (b1 := 4) (q1 := 0) (ci := 4) (ws' := [wC dT a (a_d 0) (a_r 0 0) (a_k 0) (pim a_r v_r.2.1) v, wD dT a_d (a_d_p 0) (a_d_k 0) v_d, wR dT a_d_p v_d_p, wR dT a_d_k v_d_k, wK dT a_k q1, wRw dT v_r.1 a_r v_r.2.2]) (As := []) C 7 dX1_untilAllKnown_4 rfl kv_X1_90 (c_X4_clear hq1) ⟨rfl, rfl⟩ ⟨Nat.le_of_ble_eq_true rfl, Nat.le_of_ble_eq_true rfl⟩ rfl rfl rfl [4] [0, 1, 2, 3, 5] [0, 1, 2, 3, 5, 4] rfl rfl rfl rfl (by decide) rfl rfl rfl rfl ⟨by show (8 * ((v_r.1 - v_r.1))) ≤ 8 * ((B5 - v_r.1)); omega, by show (96 * ((v_r.1 - v_r.1))) ≤ 96 * ((B5 - v_r.1)); omega⟩ (Nat.le_of_ble_eq_true rfl) ?_
  refine wa_iconst (v := 0) C 8 dX1_untilAllKnown_7 rfl rfl ?_
  refine wa_istore_n (lv' := [(0, .ref (a 0)), (1, .int (0 : Int32))]) C [1, 0] 9 dX1_untilAllKnown_8 rfl (Nat.le_of_ble_eq_true rfl) rfl ?_
  exact w_X1_untilAllKnown_L9 C FUEL (0 : Int32) v v_d v_d_p v_d_k q1 v_r a_r hm5 hb5 hg5 hf
def f_X1_mostRestless_L14 (B5 : Nat) (w2 : Nat) (z0 : CS) (z1 : Ob) (z2 : Ob) (z3 : Ob) (z4 : Ob) (z5 : FS) : Nat → Int32 → Int32 → Int32 → Option (Int32 × CS × Ob × Ob × Ob × FS)
  | 0, _, _, _ => none
  | n + 1, l3, l4, l5 => grd (decide (w2 < z5.1)) ((if ((z5.2.2 w2).1 0) ≤ l5 then some (l3, z0, z1, z2, z3, z5) else grd (decide (w2 < z5.1)) (grd (decide (w2 < z5.1)) (grd (vi l5 12) (grd (decide (0 < z5.1)) (grd (decide (0 < z5.1)) (grd (vi l5 12) (bnd (((z5.2.2 w2).2 5 (l5).toNatClampNeg) - ((z5.2.2 0).2 5 (l5).toNatClampNeg)) (fun x12 => (if x12 ≤ l4 then bnd (l5 + 1) (fun x14 => f_X1_mostRestless_L14 B5 w2 z0 z1 z2 z3 z4 z5 n l3 l4 x14) else bnd (l5 + 1) (fun x15 => f_X1_mostRestless_L14 B5 w2 z0 z1 z2 z3 z4 z5 n l5 x12 x15)))))))))))
def f_X1_mostRestless (v : CS) (v_d : Ob) (v_d_p : Ob) (v_d_k : Ob) (v_k : Ob) (v_r : FS) (B5 : Nat) (p0 : Int32) : Option (Int32 × CS × Ob × Ob × Ob × FS) := (f_X1_behind v v_d v_d_p v_d_k v_k v_r (max v_r.1 ((p0).toNatClampNeg + 1)) p0).bind (fun q1 => grd (decide (v_r.1 ≤ q1.2.2.2.2.2.1 ∧ q1.2.2.2.2.2.1 = (max v_r.1 ((p0).toNatClampNeg + 1)) ∧ (max v_r.1 ((p0).toNatClampNeg + 1)) ≤ B5)) (f_X1_mostRestless_L14 B5 q1.1 q1.2.1 q1.2.2.1 q1.2.2.2.1 q1.2.2.2.2.1 v_k q1.2.2.2.2.2 FUEL (-1 : Int32) (0 : Int32) (0 : Int32)))
set_option maxRecDepth 20000 in
theorem w_X1_mostRestless_L14 {p : Program} {l : Launch} {e : Env} {s : State} {m : MethodId} {args : Array Value} {below : List Frame} {meth : Method} {c : Code} {D : va_G} {A : Nat → Prop} {dT : Nat → ClassId} {a : Nat → Nat} {a_d : Nat → Nat} {a_d_p : Nat → Nat} {a_d_k : Nat → Nat} {a_k : Nat → Nat} {m5 B5 : Nat} {r5 : Nat → Nat → Nat} {res : Int32 × CS × Ob × Ob × Ob × FS} {w2 : Nat} {z0 : CS} {z1 : Ob} {z2 : Ob} {z3 : Ob} {z4 : Ob} {z5 : FS} (C : Cx p s m args meth c cX1_mostRestless 7 RX1 (some .int) D A dT) : ∀ (n : Nat) (l3 : Int32) (l4 : Int32) (l5 : Int32) (rr5 : Nat → Nat → Nat), m5 ≤ z5.1 → z5.1 - m5 ≤ B5 - m5 → (∀ k, k < m5 → rr5 k = r5 k) → f_X1_mostRestless_L14 B5 w2 z0 z1 z2 z3 z4 z5 n l3 l4 l5 = some res → WA p l e ({ frames := 7, cells := 8 * ((B5 - m5)), slots := 96 * ((B5 - m5)), locals := 153 } : Room) s m args below meth c (MQ below (va_Qi (fun r9 u => r9 = res.1 ∧ (fun u : (Nat → Nat → Nat) => (∀ k, k < m5 → u k = r5 k)) u) (fun u t => WB D dT A ((fun u : (Nat → Nat → Nat) => [wC dT a (a_d 0) (u 0 0) (a_k 0) (pim u res.2.2.2.2.2.2.1) res.2.1, wD dT a_d (a_d_p 0) (a_d_k 0) res.2.2.1, wR dT a_d_p res.2.2.2.1, wR dT a_d_k res.2.2.2.2.1, wK dT a_k z4, wRw dT res.2.2.2.2.2.1 u res.2.2.2.2.2.2.2]) u) t) A) args s (8 * ((B5 - m5))) (96 * ((B5 - m5))) A) D A (8 * ((z5.1 - m5))) (96 * ((z5.1 - m5))) 7 14 ([wC dT a (a_d 0) (rr5 0 0) (a_k 0) (pim rr5 z5.2.1) z0, wD dT a_d (a_d_p 0) (a_d_k 0) z1, wR dT a_d_p z2, wR dT a_d_k z3, wK dT a_k z4, wRw dT z5.1 rr5 z5.2.2]) [(0, .ref (a 0)), (2, .ref (rr5 w2 0)), (3, .int l3), (4, .int l4), (5, .int l5)] [] := by
  intro n
  induction n with
  | zero => intro l3 l4 l5 rr5 hm5 hb5 hg5 hf; cases hf
  | succ n ih =>
    intro l3 l4 l5 rr5 hm5 hb5 hg5 hf
    unfold f_X1_mostRestless_L14 at hf
    refine wa_iload C 4 16 dX1_mostRestless_14 rfl rfl ?_
    refine wa_aload_n C 1 17 dX1_mostRestless_16 rfl rfl ?_
    obtain ⟨g4, hf⟩ := grd_ex hf
    refine wa_openF 5 w2 (of_decide_eq_true g4) List.not_mem_nil rfl ?_
    refine wa_get C 20 6 0 0 dX1_mostRestless_17 rfl iX10 q55 rfl (Nat.le_of_ble_eq_true rfl) rfl rfl rfl ?_
    refine wa_closeR (ws := [wC dT a (a_d 0) (rr5 0 0) (a_k 0) (pim rr5 z5.2.1) z0, wD dT a_d (a_d_p 0) (a_d_k 0) z1, wR dT a_d_p z2, wR dT a_d_k z3, wK dT a_k z4, wRm dT z5.1 [w2] rr5 z5.2.2]) (ws' := [wC dT a (a_d 0) (rr5 0 0) (a_k 0) (pim rr5 z5.2.1) z0, wD dT a_d (a_d_p 0) (a_d_k 0) z1, wR dT a_d_p z2, wR dT a_d_k z3, wK dT a_k z4, wRw dT z5.1 rr5 z5.2.2]) 5 w2 (of_decide_eq_true g4) List.not_mem_nil rfl rfl ?_
    refine wa_icmp_ge C 63 23 dX1_mostRestless_20 rfl rfl (fun c5 => ?_) (fun c5 => ?_)
    · replace hf := ite_t hf c5
      refine wa_iload_n C 2 64 dX1_mostRestless_63 rfl rfl ?_
      cases hf
      exact wa_irm C (rr5) dX1_mostRestless_64 hg5 rfl rfl (by show (8 * ((z5.1 - m5))) ≤ 8 * ((B5 - m5)); omega) (by show (96 * ((z5.1 - m5))) ≤ 96 * ((B5 - m5)); omega)
    · replace hf := ite_f hf c5
      refine wa_aload_n C 1 24 dX1_mostRestless_23 rfl rfl ?_
      obtain ⟨g6, hf⟩ := grd_ex hf
      refine wa_openF 5 w2 (of_decide_eq_true g6) List.not_mem_nil rfl ?_
      refine wa_get C 27 6 0 7 dX1_mostRestless_24 rfl iX10 q86 rfl (Nat.le_of_ble_eq_true rfl) rfl rfl rfl ?_
      refine wa_closeR (ws := [wC dT a (a_d 0) (rr5 0 0) (a_k 0) (pim rr5 z5.2.1) z0, wD dT a_d (a_d_p 0) (a_d_k 0) z1, wR dT a_d_p z2, wR dT a_d_k z3, wK dT a_k z4, wRm dT z5.1 [w2] rr5 z5.2.2]) (ws' := [wC dT a (a_d 0) (rr5 0 0) (a_k 0) (pim rr5 z5.2.1) z0, wD dT a_d (a_d_p 0) (a_d_k 0) z1, wR dT a_d_p z2, wR dT a_d_k z3, wK dT a_k z4, wRw dT z5.1 rr5 z5.2.2]) 5 w2 (of_decide_eq_true g6) List.not_mem_nil rfl rfl ?_
      refine wa_iload C 4 29 dX1_mostRestless_27 rfl rfl ?_
      obtain ⟨g7, hf⟩ := grd_ex hf
      obtain ⟨g8, hf⟩ := grd_ex hf
      refine wa_openF 5 w2 (of_decide_eq_true g7) List.not_mem_nil rfl ?_
      refine wa_iald C 30 6 5 dX1_mostRestless_29 rfl rfl rfl (vi_in g8) ?_
      refine wa_closeR (ws := [wC dT a (a_d 0) (rr5 0 0) (a_k 0) (pim rr5 z5.2.1) z0, wD dT a_d (a_d_p 0) (a_d_k 0) z1, wR dT a_d_p z2, wR dT a_d_k z3, wK dT a_k z4, wRm dT z5.1 [w2] rr5 z5.2.2]) (ws' := [wC dT a (a_d 0) (rr5 0 0) (a_k 0) (pim rr5 z5.2.1) z0, wD dT a_d (a_d_p 0) (a_d_k 0) z1, wR dT a_d_p z2, wR dT a_d_k z3, wK dT a_k z4, wRw dT z5.1 rr5 z5.2.2]) 5 w2 (of_decide_eq_true g7) List.not_mem_nil rfl rfl ?_
      refine wa_aload_n C 0 31 dX1_mostRestless_30 rfl rfl ?_
      refine wa_get C 34 0 0 1 dX1_mostRestless_31 rfl iX1 q251 rfl (Nat.le_of_ble_eq_true rfl) rfl rfl rfl ?_
      obtain ⟨g9, hf⟩ := grd_ex hf
      refine wa_openF 5 0 (of_decide_eq_true g9) List.not_mem_nil rfl ?_
      refine wa_get C 37 6 0 7 dX1_mostRestless_34 rfl iX10 q86 rfl (Nat.le_of_ble_eq_true rfl) rfl rfl rfl ?_
      refine wa_closeR (ws := [wC dT a (a_d 0) (rr5 0 0) (a_k 0) (pim rr5 z5.2.1) z0, wD dT a_d (a_d_p 0) (a_d_k 0) z1, wR dT a_d_p z2, wR dT a_d_k z3, wK dT a_k z4, wRm dT z5.1 [0] rr5 z5.2.2]) (ws' := [wC dT a (a_d 0) (rr5 0 0) (a_k 0) (pim rr5 z5.2.1) z0, wD dT a_d (a_d_p 0) (a_d_k 0) z1, wR dT a_d_p z2, wR dT a_d_k z3, wK dT a_k z4, wRw dT z5.1 rr5 z5.2.2]) 5 0 (of_decide_eq_true g9) List.not_mem_nil rfl rfl ?_
      refine wa_iload C 4 39 dX1_mostRestless_37 rfl rfl ?_
      obtain ⟨g10, hf⟩ := grd_ex hf
      obtain ⟨g11, hf⟩ := grd_ex hf
      refine wa_openF 5 0 (of_decide_eq_true g10) List.not_mem_nil rfl ?_
      refine wa_iald C 40 6 5 dX1_mostRestless_39 rfl rfl rfl (vi_in g11) ?_
      refine wa_closeR (ws := [wC dT a (a_d 0) (rr5 0 0) (a_k 0) (pim rr5 z5.2.1) z0, wD dT a_d (a_d_p 0) (a_d_k 0) z1, wR dT a_d_p z2, wR dT a_d_k z3, wK dT a_k z4, wRm dT z5.1 [0] rr5 z5.2.2]) (ws' := [wC dT a (a_d 0) (rr5 0 0) (a_k 0) (pim rr5 z5.2.1) z0, wD dT a_d (a_d_p 0) (a_d_k 0) z1, wR dT a_d_p z2, wR dT a_d_k z3, wK dT a_k z4, wRw dT z5.1 rr5 z5.2.2]) 5 0 (of_decide_eq_true g10) List.not_mem_nil rfl rfl ?_
      refine wa_isub C 41 dX1_mostRestless_40 rfl ?_
      obtain ⟨x12, ex12, hf⟩ := bnd_ex hf
      refine wa_topi ex12 ?_
      refine wa_istore (lv' := [(0, .ref (a 0)), (2, .ref (rr5 w2 0)), (3, .int l3), (4, .int l4), (5, .int l5), (6, .int x12)]) C [1, 2, 3, 4, 5, 0] 43 dX1_mostRestless_41 rfl (Nat.le_of_ble_eq_true rfl) rfl ?_
      refine wa_iload C 5 45 dX1_mostRestless_43 rfl rfl ?_
      refine wa_iload C 3 47 dX1_mostRestless_45 rfl rfl ?_
      refine wa_icmp_le C 57 50 dX1_mostRestless_47 rfl rfl (fun c13 => ?_) (fun c13 => ?_)
      · replace hf := ite_t hf c13
        obtain ⟨x14, ex14, hf⟩ := bnd_ex hf
        refine wa_iinc (v := x14) (lv' := [(0, .ref (a 0)), (2, .ref (rr5 w2 0)), (3, .int l3), (4, .int l4), (5, .int x14), (6, .int x12)]) C 4 [1, 2, 3, 4, 0, 5] 60 dX1_mostRestless_57 rfl rfl (by rw [ex14]; rfl) (Nat.le_of_ble_eq_true rfl) rfl ?_
        refine wa_goto C 14 dX1_mostRestless_60 rfl ?_
        refine wa_lv (lv' := [(0, .ref (a 0)), (2, .ref (rr5 w2 0)), (3, .int l3), (4, .int l4), (5, .int x14)]) [0, 1, 2, 3, 4] rfl ?_
        exact ih l3 l4 x14 rr5 hm5 hb5 hg5 hf
      · replace hf := ite_f hf c13
        refine wa_iload C 4 52 dX1_mostRestless_50 rfl rfl ?_
        refine wa_istore_n (lv' := [(0, .ref (a 0)), (2, .ref (rr5 w2 0)), (3, .int l5), (4, .int l4), (5, .int l5), (6, .int x12)]) C [1, 2, 0, 3, 4, 5] 53 dX1_mostRestless_52 rfl (Nat.le_of_ble_eq_true rfl) rfl ?_
        refine wa_iload C 5 55 dX1_mostRestless_53 rfl rfl ?_
        refine wa_istore (lv' := [(0, .ref (a 0)), (2, .ref (rr5 w2 0)), (3, .int l5), (4, .int x12), (5, .int l5), (6, .int x12)]) C [1, 2, 3, 0, 4, 5] 57 dX1_mostRestless_55 rfl (Nat.le_of_ble_eq_true rfl) rfl ?_
        obtain ⟨x15, ex15, hf⟩ := bnd_ex hf
        refine wa_iinc (v := x15) (lv' := [(0, .ref (a 0)), (2, .ref (rr5 w2 0)), (3, .int l5), (4, .int x12), (5, .int x15), (6, .int x12)]) C 4 [1, 2, 3, 4, 0, 5] 60 dX1_mostRestless_57 rfl rfl (by rw [ex15]; rfl) (Nat.le_of_ble_eq_true rfl) rfl ?_
        refine wa_goto C 14 dX1_mostRestless_60 rfl ?_
        refine wa_lv (lv' := [(0, .ref (a 0)), (2, .ref (rr5 w2 0)), (3, .int l5), (4, .int x12), (5, .int x15)]) [0, 1, 2, 3, 4] rfl ?_
        exact ih l5 x12 x15 rr5 hm5 hb5 hg5 hf
set_option maxRecDepth 20000 in
theorem c_X1_mostRestless {l : Launch} {D : va_G} {dT : Nat → ClassId} {a : Nat → Nat} {a_d : Nat → Nat} {a_d_p : Nat → Nat} {a_d_k : Nat → Nat} {a_k : Nat → Nat} {a_r : Nat → Nat → Nat} {v : CS} {v_d : Ob} {v_d_p : Ob} {v_d_k : Ob} {v_k : Ob} {v_r : FS} {B5 : Nat} {p0 : Int32} {res : Int32 × CS × Ob × Ob × Ob × FS} (hf : f_X1_mostRestless v v_d v_d_p v_d_k v_k v_r B5 p0 = some res) : CMi l yX1_mostRestless cX1_mostRestless 7 (some .int) ({ frames := 7, cells := 8 * ((B5 - v_r.1)), slots := 96 * ((B5 - v_r.1)), locals := 153 } : Room) D dT [.ref (a 0), .int p0] ([wC dT a (a_d 0) (a_r 0 0) (a_k 0) (pim a_r v_r.2.1) v, wD dT a_d (a_d_p 0) (a_d_k 0) v_d, wR dT a_d_p v_d_p, wR dT a_d_k v_d_k, wK dT a_k v_k, wRw dT v_r.1 a_r v_r.2.2]) (fun u : (Nat → Nat → Nat) => (∀ k, k < v_r.1 → u k = a_r k)) (fun u : (Nat → Nat → Nat) => [wC dT a (a_d 0) (u 0 0) (a_k 0) (pim u res.2.2.2.2.2.2.1) res.2.1, wD dT a_d (a_d_p 0) (a_d_k 0) res.2.2.1, wR dT a_d_p res.2.2.2.1, wR dT a_d_k res.2.2.2.2.1, wK dT a_k v_k, wRw dT res.2.2.2.2.2.1 u res.2.2.2.2.2.2.2]) res.1 (8 * ((B5 - v_r.1))) (96 * ((B5 - v_r.1))) := by
  refine CMi.of (by decide) (Nat.le_of_ble_eq_true rfl) rfl ?_
  intro p e s m args below meth c A C
  unfold f_X1_mostRestless at hf
  have hm5 : v_r.1 ≤ v_r.1 := Nat.le_refl _
  have hb5 : v_r.1 - v_r.1 ≤ B5 - v_r.1 := by omega
  have hg5 : ∀ k, k < v_r.1 → a_r k = a_r k := fun _ _ => rfl
  refine wa_widen (k := (8 * ((v_r.1 - v_r.1)))) (n := (96 * ((v_r.1 - v_r.1)))) (Nat.zero_le _) (Nat.zero_le _) ?_
  refine wa_aload_n C 0 1 dX1_mostRestless_0 rfl rfl ?_
  refine wa_iload_n C 1 2 dX1_mostRestless_1 rfl rfl ?_
  obtain ⟨q1, hq1, hf⟩ := bind_ex hf
  obtain ⟨g2, hf⟩ := grd_ex hf
  replace g2 := of_decide_eq_true g2
  refine wa_callMr (b1 := 0) (q1 := 0) (ci := 1) (As := [.int p0]) C (fun (ru3 : (Nat → Nat → Nat)) => [wC dT a (a_d 0) (ru3 0 0) (a_k 0) (pim ru3 q1.2.2.2.2.2.2.1) q1.2.1, wD dT a_d (a_d_p 0) (a_d_k 0) q1.2.2.1, wR dT a_d_p q1.2.2.2.1, wR dT a_d_k q1.2.2.2.2.1, wK dT a_k v_k, wRw dT q1.2.2.2.2.2.1 ru3 q1.2.2.2.2.2.2.2]) 5 dX1_mostRestless_2 rfl kv_X1_59 (c_X1_behind hq1) ⟨rfl, rfl⟩ ⟨Nat.le_of_ble_eq_true rfl, Nat.le_of_ble_eq_true rfl⟩ rfl rfl rfl [0, 1, 2, 3, 4, 5] [] [0, 1, 2, 3, 4, 5] rfl rfl rfl rfl (by decide) rfl (fun _ => rfl) rfl rfl ⟨by show (8 * ((v_r.1 - v_r.1))) + 8 * (((max v_r.1 ((p0).toNatClampNeg + 1)) - v_r.1)) ≤ 8 * ((B5 - v_r.1)); omega, by show (96 * ((v_r.1 - v_r.1))) + 96 * (((max v_r.1 ((p0).toNatClampNeg + 1)) - v_r.1)) ≤ 96 * ((B5 - v_r.1)); omega⟩ (Nat.le_of_ble_eq_true rfl) (fun ru3 hu => ?_)
  refine wa_widen (k := (8 * ((q1.2.2.2.2.2.1 - v_r.1)))) (n := (96 * ((q1.2.2.2.2.2.1 - v_r.1)))) (by omega) (by omega) ?_
  replace hg5 : ∀ k, k < v_r.1 → ru3 k = a_r k := fun k hk => (hu k (by omega)).trans (hg5 k hk)
  replace hm5 : v_r.1 ≤ q1.2.2.2.2.2.1 := by omega
  replace hb5 : q1.2.2.2.2.2.1 - v_r.1 ≤ B5 - v_r.1 := by omega
  refine wa_astore_n (lv' := [(0, .ref (a 0)), (1, .int p0), (2, .ref (ru3 q1.1 0))]) C [1, 2, 0] 6 dX1_mostRestless_5 rfl (Nat.le_of_ble_eq_true rfl) rfl ?_
  refine wa_iconst (v := (-1)) C 7 dX1_mostRestless_6 rfl rfl ?_
  refine wa_istore_n (lv' := [(0, .ref (a 0)), (1, .int p0), (2, .ref (ru3 q1.1 0)), (3, .int (-1 : Int32))]) C [1, 2, 3, 0] 8 dX1_mostRestless_7 rfl (Nat.le_of_ble_eq_true rfl) rfl ?_
  refine wa_iconst (v := 0) C 9 dX1_mostRestless_8 rfl rfl ?_
  refine wa_istore (lv' := [(0, .ref (a 0)), (1, .int p0), (2, .ref (ru3 q1.1 0)), (3, .int (-1 : Int32)), (4, .int (0 : Int32))]) C [1, 2, 3, 4, 0] 11 dX1_mostRestless_9 rfl (Nat.le_of_ble_eq_true rfl) rfl ?_
  refine wa_iconst (v := 0) C 12 dX1_mostRestless_11 rfl rfl ?_
  refine wa_istore (lv' := [(0, .ref (a 0)), (1, .int p0), (2, .ref (ru3 q1.1 0)), (3, .int (-1 : Int32)), (4, .int (0 : Int32)), (5, .int (0 : Int32))]) C [1, 2, 3, 4, 5, 0] 14 dX1_mostRestless_12 rfl (Nat.le_of_ble_eq_true rfl) rfl ?_
  refine wa_lv (lv' := [(0, .ref (a 0)), (2, .ref (ru3 q1.1 0)), (3, .int (-1 : Int32)), (4, .int (0 : Int32)), (5, .int (0 : Int32))]) [0, 2, 3, 4, 5] rfl ?_
  exact w_X1_mostRestless_L14 C FUEL (-1 : Int32) (0 : Int32) (0 : Int32) ru3 hm5 hb5 hg5 hf
