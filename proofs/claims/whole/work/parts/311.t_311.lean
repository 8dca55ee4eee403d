theorem kv_X9_151 : KV RX9 151 yX10_companions cX10_companions 2 (some .int) 1 := KV.mk q1381 q540 q541 q3 q542 ⟨by decide, by decide, by decide +kernel⟩
theorem kv_X9_154 : KV RX9 154 yX3_of cX3_of 4 (some .int) 1 := KV.mk q1382 q858 q859 q4 q860 ⟨by decide, by decide, by decide +kernel⟩
def f_X9_gainOf (v : Ob) (v_d : Ob) (v_d_p : Ob) (v_d_k : Ob) (v_t : Ob) (v_k : Ob) (v1 : Ob) (p0 : Int32) : Option (Int32) := (f_X10_companions v_t p0).bind (fun q1 => grd (vi p0 12) (grd (vi (v_t.2 2 (p0).toNatClampNeg) 13) ((f_X3_of v1 p0).bind (fun q4 => (f_J6_bitCount_0f7a4 (q1 &&& q4)).bind (fun q5 => some (((v_t.2 6 ((v_t.2 2 (p0).toNatClampNeg)).toNatClampNeg) + q5)))))))
set_option maxRecDepth 20000 in
theorem c_X9_gainOf {l : Launch} {D : va_G} {dT : Nat → ClassId} {a : Nat → Nat} {a_d : Nat → Nat} {a_d_p : Nat → Nat} {a_d_k : Nat → Nat} {a_t : Nat → Nat} {a_k : Nat → Nat} {a1 : Nat → Nat} {v : Ob} {v_d : Ob} {v_d_p : Ob} {v_d_k : Ob} {v_t : Ob} {v_k : Ob} {v1 : Ob} {p0 : Int32} {res : Int32} (hf : f_X9_gainOf v v_d v_d_p v_d_k v_t v_k v1 p0 = some res) : CTi l yX9_gainOf cX9_gainOf 4 (some .int) ({ frames := 2, cells := 0, slots := 0, locals := 44 } : Room) D dT [.ref (a 0), .int p0, .ref (a1 0)] ([wT dT a (a_d 0) (a_t 0) (a_k 0) v, wD dT a_d (a_d_p 0) (a_d_k 0) v_d, wR dT a_d_p v_d_p, wR dT a_d_k v_d_k, wV dT a_t v_t, wK dT a_k v_k, wF dT a1 v1]) ([wT dT a (a_d 0) (a_t 0) (a_k 0) v, wD dT a_d (a_d_p 0) (a_d_k 0) v_d, wR dT a_d_p v_d_p, wR dT a_d_k v_d_k, wV dT a_t v_t, wK dT a_k v_k, wF dT a1 v1]) res := by
  refine CTi.of (by decide) (Nat.le_of_ble_eq_true rfl) rfl ?_
  intro p e s m args below meth c A C
  unfold f_X9_gainOf at hf
  refine wa_aload_n C 0 1 dX9_gainOf_0 rfl rfl ?_
  refine wa_get C 4 0 0 1 dX9_gainOf_1 rfl iX9 q328 rfl (Nat.le_of_ble_eq_true rfl) rfl rfl rfl ?_
  refine wa_iload_n C 1 5 dX9_gainOf_4 rfl rfl ?_
  obtain ⟨q1, hq1, hf⟩ := bind_ex hf
  refine wa_callVi (b1 := 4) (q1 := 0) (ci := 10) (ws' := [wT dT a (a_d 0) (a_t 0) (a_k 0) v, wD dT a_d (a_d_p 0) (a_d_k 0) v_d, wR dT a_d_p v_d_p, wR dT a_d_k v_d_k, wV dT a_t v_t, wK dT a_k v_k, wF dT a1 v1]) (As := [.int p0]) C 8 dX9_gainOf_5 rfl kv_X9_151 (c_X10_companions hq1) ⟨rfl, rfl⟩ ⟨Nat.le_of_ble_eq_true rfl, Nat.le_of_ble_eq_true rfl⟩ rfl rfl rfl [4] [0, 1, 2, 3, 5, 6] [0, 1, 2, 3, 6, 4, 5] rfl rfl rfl rfl (by decide) rfl rfl rfl rfl ⟨Nat.zero_le _, Nat.zero_le _⟩ (Nat.le_of_ble_eq_true rfl) ?_
  refine wa_istore_n (lv' := [(0, .ref (a 0)), (1, .int p0), (2, .ref (a1 0)), (3, .int q1)]) C [1, 2, 3, 0] 9 dX9_gainOf_8 rfl (Nat.le_of_ble_eq_true rfl) rfl ?_
  refine wa_aload_n C 0 10 dX9_gainOf_9 rfl rfl ?_
  refine wa_get C 13 0 0 1 dX9_gainOf_10 rfl iX9 q328 rfl (Nat.le_of_ble_eq_true rfl) rfl rfl rfl ?_
  refine wa_get C 16 4 0 8 dX9_gainOf_13 rfl iX10 q92 rfl (Nat.le_of_ble_eq_true rfl) rfl rfl rfl ?_
  refine wa_aload_n C 0 17 dX9_gainOf_16 rfl rfl ?_
  refine wa_get C 20 0 0 1 dX9_gainOf_17 rfl iX9 q328 rfl (Nat.le_of_ble_eq_true rfl) rfl rfl rfl ?_
  refine wa_get C 23 4 0 4 dX9_gainOf_20 rfl iX10 q71 rfl (Nat.le_of_ble_eq_true rfl) rfl rfl rfl ?_
  refine wa_iload_n C 1 24 dX9_gainOf_23 rfl rfl ?_
  obtain ⟨g2, hf⟩ := grd_ex hf
  refine wa_iald C 25 4 2 dX9_gainOf_24 rfl rfl rfl (vi_in g2) ?_
  obtain ⟨g3, hf⟩ := grd_ex hf
  refine wa_iald C 26 4 6 dX9_gainOf_25 rfl rfl rfl (vi_in g3) ?_
  refine wa_iload_n C 3 27 dX9_gainOf_26 rfl rfl ?_
  refine wa_aload_n C 2 28 dX9_gainOf_27 rfl rfl ?_
  refine wa_iload_n C 1 29 dX9_gainOf_28 rfl rfl ?_
  obtain ⟨q4, hq4, hf⟩ := bind_ex hf
  refine wa_callVi (b1 := 6) (q1 := 0) (ci := 3) (ws' := [wT dT a (a_d 0) (a_t 0) (a_k 0) v, wD dT a_d (a_d_p 0) (a_d_k 0) v_d, wR dT a_d_p v_d_p, wR dT a_d_k v_d_k, wV dT a_t v_t, wK dT a_k v_k, wF dT a1 v1]) (As := [.int p0]) C 32 dX9_gainOf_29 rfl kv_X9_154 (c_X3_of hq4) ⟨rfl, rfl⟩ ⟨Nat.le_of_ble_eq_true rfl, Nat.le_of_ble_eq_true rfl⟩ rfl rfl rfl [6] [0, 1, 2, 3, 4, 5] [0, 1, 2, 3, 4, 5, 6] rfl rfl rfl rfl (by decide) rfl rfl rfl rfl ⟨Nat.zero_le _, Nat.zero_le _⟩ (Nat.le_of_ble_eq_true rfl) ?_
  refine wa_iand C 33 dX9_gainOf_32 rfl ?_
  obtain ⟨q5, hq5, hf⟩ := bind_ex hf
  refine wa_callS0i (As := [.int (q1 &&& q4)]) C 36 dX9_gainOf_33 rfl ks_X9_136 (c_J6_bitCount_0f7a4 hq5) ⟨rfl, rfl⟩ ⟨Nat.le_of_ble_eq_true rfl, Nat.le_of_ble_eq_true rfl⟩ rfl rfl ⟨Nat.zero_le _, Nat.zero_le _⟩ (Nat.le_of_ble_eq_true rfl) ?_
  refine wa_iadd C 37 dX9_gainOf_36 rfl ?_
  cases hf
  exact wa_iret C dX9_gainOf_37 rfl rfl
theorem kv_X9_147 : KV RX9 147 yX9_gainOf cX9_gainOf 4 (some .int) 2 := KV.mk q1377 q1379 qs42 q12 q1380 ⟨by decide, by decide, by decide +kernel⟩
def f_X9_play_L54 (k3 : Int32 → Ob → Ob → Ob → Ob → Ob → Option (Ob × Ob × Ob × Ob × Ob)) (l3 : Int32) (l4 : Int32) (l5 : Int32) (l6 : Int32) (l7 : Int32) (z5 : Ob) (z6 : Ob) (z7 : Ob) : Nat → Int32 → Ob → Ob → Ob → Ob → Ob → Option (Ob × Ob × Ob × Ob × Ob)
  | 0, _, _, _, _, _, _ => none
  | n + 1, l8, z0, z1, z2, z3, z4 => (if (6 : Int32) ≤ l8 then (f_X9_gainOf z0 z1 z2 z3 z4 z5 z7 l3).bind (fun q7 => grd (vi l5 4) (bnd (z0.1, uA z0.2 2 (l5).toNatClampNeg (q7 - l6)) (fun y9 => (f_X9_gainOf y9 z1 z2 z3 z4 z5 z7 l4).bind (fun q10 => grd (vi l5 4) (bnd (y9.1, uA y9.2 3 (l5).toNatClampNeg (q10 - l7)) (fun y12 => bnd (l5 + 1) (fun x13 => k3 x13 y12 z1 z2 z3 z4))))))) else (f_X2_pass z1 z2 z3 z4 (0 : Int32)).bind (fun q14 => bnd (l8 + 1) (fun x15 => f_X9_play_L54 k3 l3 l4 l5 l6 l7 z5 z6 z7 n x15 z0 q14.2.1 q14.2.2.1 q14.2.2.2.1 q14.2.2.2.2)))
def f_X9_play_L3 (l3 : Int32) (l4 : Int32) (z5 : Ob) (z6 : Ob) (z7 : Ob) : Nat → Int32 → Ob → Ob → Ob → Ob → Ob → Option (Ob × Ob × Ob × Ob × Ob)
  | 0, _, _, _, _, _, _ => none
  | n + 1, l5, z0, z1, z2, z3, z4 => (if (4 : Int32) ≤ l5 then some (z0, z1, z2, z3, z4) else bnd (l5 >>> ((1 : Int32) &&& 31)) (fun x2 => bnd (l5 &&& (1 : Int32)) (fun x3 => (f_X10_copyFrom z4 z6).bind (fun q4 => (f_X2_pass z1 z2 z3 q4 ((x2 <<< (l3 &&& 31)) ||| (x3 <<< (l4 &&& 31)))).bind (fun q5 => f_X9_play_L54 (f_X9_play_L3 l3 l4 z5 z6 z7 n) l3 l4 l5 x2 x3 z5 z6 z7 FUEL (1 : Int32) z0 q5.2.1 q5.2.2.1 q5.2.2.2.1 q5.2.2.2.2)))))
def f_X9_play (v : Ob) (v_d : Ob) (v_d_p : Ob) (v_d_k : Ob) (v_t : Ob) (v_k : Ob) (v0 : Ob) (v1 : Ob) (p2 : Int32) (p3 : Int32) : Option (Ob × Ob × Ob × Ob × Ob) := f_X9_play_L3 p2 p3 v_k v0 v1 FUEL (0 : Int32) v v_d v_d_p v_d_k v_t
set_option maxRecDepth 20000 in
theorem w_X9_play_L54 {p : Program} {l : Launch} {e : Env} {s : State} {m : MethodId} {args : Array Value} {below : List Frame} {meth : Method} {c : Code} {D : va_G} {A : Nat → Prop} {dT : Nat → ClassId} {a : Nat → Nat} {a_d : Nat → Nat} {a_d_p : Nat → Nat} {a_d_k : Nat → Nat} {a_t : Nat → Nat} {a_k : Nat → Nat} {a0 : Nat → Nat} {a1 : Nat → Nat} {res : Ob × Ob × Ob × Ob × Ob} {l3 : Int32} {l4 : Int32} {l5 : Int32} {l6 : Int32} {l7 : Int32} {z5 : Ob} {z6 : Ob} {z7 : Ob} (C : Cx p s m args meth c cX9_play 9 RX9 none D A dT) {k3 : Int32 → Ob → Ob → Ob → Ob → Ob → Option (Ob × Ob × Ob × Ob × Ob)} (hk3 : ∀ (l5 : Int32) (z0 : Ob) (z1 : Ob) (z2 : Ob) (z3 : Ob) (z4 : Ob), k3 l5 z0 z1 z2 z3 z4 = some res → WA p l e ({ frames := 6, cells := 0, slots := 0, locals := 130 } : Room) s m args below meth c (MQ below (QV D dT A ([wT dT a (a_d 0) (a_t 0) (a_k 0) res.1, wD dT a_d (a_d_p 0) (a_d_k 0) res.2.1, wR dT a_d_p res.2.2.1, wR dT a_d_k res.2.2.2.1, wV dT a_t res.2.2.2.2, wK dT a_k z5, wV dT a0 z6, wF dT a1 z7])) args s 0 0 A) D A 0 0 9 3 ([wT dT a (a_d 0) (a_t 0) (a_k 0) z0, wD dT a_d (a_d_p 0) (a_d_k 0) z1, wR dT a_d_p z2, wR dT a_d_k z3, wV dT a_t z4, wK dT a_k z5, wV dT a0 z6, wF dT a1 z7]) [(0, .ref (a 0)), (1, .ref (a0 0)), (2, .ref (a1 0)), (3, .int l3), (4, .int l4), (5, .int l5)] []) : ∀ (n : Nat) (l8 : Int32) (z0 : Ob) (z1 : Ob) (z2 : Ob) (z3 : Ob) (z4 : Ob), f_X9_play_L54 k3 l3 l4 l5 l6 l7 z5 z6 z7 n l8 z0 z1 z2 z3 z4 = some res → WA p l e ({ frames := 6, cells := 0, slots := 0, locals := 130 } : Room) s m args below meth c (MQ below (QV D dT A ([wT dT a (a_d 0) (a_t 0) (a_k 0) res.1, wD dT a_d (a_d_p 0) (a_d_k 0) res.2.1, wR dT a_d_p res.2.2.1, wR dT a_d_k res.2.2.2.1, wV dT a_t res.2.2.2.2, wK dT a_k z5, wV dT a0 z6, wF dT a1 z7])) args s 0 0 A) D A 0 0 9 54 ([wT dT a (a_d 0) (a_t 0) (a_k 0) z0, wD dT a_d (a_d_p 0) (a_d_k 0) z1, wR dT a_d_p z2, wR dT a_d_k z3, wV dT a_t z4, wK dT a_k z5, wV dT a0 z6, wF dT a1 z7]) [(0, .ref (a 0)), (1, .ref (a0 0)), (2, .ref (a1 0)), (3, .int l3), (4, .int l4), (5, .int l5), (6, .int l6), (7, .int l7), (8, .int l8)] [] := by
  intro n
  induction n with
  | zero => intro l8 z0 z1 z2 z3 z4 hf; cases hf
  | succ n ih =>
    intro l8 z0 z1 z2 z3 z4 hf
    unfold f_X9_play_L54 at hf
    refine wa_iload C 8 56 dX9_play_54 rfl rfl ?_
    refine wa_bipush (v := 6) C 58 dX9_play_56 rfl rfl ?_
    refine wa_icmp_ge C 80 61 dX9_play_58 rfl rfl (fun c6 => ?_) (fun c6 => ?_)
    · replace hf := ite_t hf c6
      refine wa_aload_n C 0 81 dX9_play_80 rfl rfl ?_
      refine wa_get C 84 0 0 6 dX9_play_81 rfl iX9 q335 rfl (Nat.le_of_ble_eq_true rfl) rfl rfl rfl ?_
      refine wa_iload C 5 86 dX9_play_84 rfl rfl ?_
      refine wa_aload_n C 0 87 dX9_play_86 rfl rfl ?_
      refine wa_iload_n C 3 88 dX9_play_87 rfl rfl ?_
      refine wa_aload_n C 2 89 dX9_play_88 rfl rfl ?_
      obtain ⟨q7, hq7, hf⟩ := bind_ex hf
      refine wa_callVi (b1 := 0) (q1 := 0) (ci := 9) (ws' := [wT dT a (a_d 0) (a_t 0) (a_k 0) z0, wD dT a_d (a_d_p 0) (a_d_k 0) z1, wR dT a_d_p z2, wR dT a_d_k z3, wV dT a_t z4, wK dT a_k z5, wV dT a0 z6, wF dT a1 z7]) (As := [.int l3, .ref (a1 0)]) C 92 dX9_play_89 rfl kv_X9_147 (c_X9_gainOf hq7) ⟨rfl, rfl⟩ ⟨Nat.le_of_ble_eq_true rfl, Nat.le_of_ble_eq_true rfl⟩ rfl rfl rfl [0, 1, 2, 3, 4, 5, 7] [6] [1, 2, 3, 4, 5, 6, 0, 7] rfl rfl rfl rfl (by decide) rfl rfl rfl rfl ⟨Nat.zero_le _, Nat.zero_le _⟩ (Nat.le_of_ble_eq_true rfl) ?_
      refine wa_iload C 6 94 dX9_play_92 rfl rfl ?_
      refine wa_isub C 95 dX9_play_94 rfl ?_
      obtain ⟨g8, hf⟩ := grd_ex hf
      obtain ⟨y9, ey9, hf⟩ := bnd_ex hf
      refine wa_iast (ws' := [wT dT a (a_d 0) (a_t 0) (a_k 0) y9, wD dT a_d (a_d_p 0) (a_d_k 0) z1, wR dT a_d_p z2, wR dT a_d_k z3, wV dT a_t z4, wK dT a_k z5, wV dT a0 z6, wF dT a1 z7]) C 96 0 2 dX9_play_95 rfl rfl rfl (vi_in g8) (by rw [ey9]; rfl) ?_
      refine wa_aload_n C 0 97 dX9_play_96 rfl rfl ?_
      refine wa_get C 100 0 0 7 dX9_play_97 rfl iX9 q336 rfl (Nat.le_of_ble_eq_true rfl) rfl rfl rfl ?_
      refine wa_iload C 5 102 dX9_play_100 rfl rfl ?_
      refine wa_aload_n C 0 103 dX9_play_102 rfl rfl ?_
      refine wa_iload C 4 105 dX9_play_103 rfl rfl ?_
      refine wa_aload_n C 2 106 dX9_play_105 rfl rfl ?_
      obtain ⟨q10, hq10, hf⟩ := bind_ex hf
      refine wa_callVi (b1 := 0) (q1 := 0) (ci := 9) (ws' := [wT dT a (a_d 0) (a_t 0) (a_k 0) y9, wD dT a_d (a_d_p 0) (a_d_k 0) z1, wR dT a_d_p z2, wR dT a_d_k z3, wV dT a_t z4, wK dT a_k z5, wV dT a0 z6, wF dT a1 z7]) (As := [.int l4, .ref (a1 0)]) C 109 dX9_play_106 rfl kv_X9_147 (c_X9_gainOf hq10) ⟨rfl, rfl⟩ ⟨Nat.le_of_ble_eq_true rfl, Nat.le_of_ble_eq_true rfl⟩ rfl rfl rfl [0, 1, 2, 3, 4, 5, 7] [6] [1, 2, 3, 4, 5, 6, 0, 7] rfl rfl rfl rfl (by decide) rfl rfl rfl rfl ⟨Nat.zero_le _, Nat.zero_le _⟩ (Nat.le_of_ble_eq_true rfl) ?_
      refine wa_iload C 7 111 dX9_play_109 rfl rfl ?_
      refine wa_isub C 112 dX9_play_111 rfl ?_
      obtain ⟨g11, hf⟩ := grd_ex hf
      obtain ⟨y12, ey12, hf⟩ := bnd_ex hf
      refine wa_iast (ws' := [wT dT a (a_d 0) (a_t 0) (a_k 0) y12, wD dT a_d (a_d_p 0) (a_d_k 0) z1, wR dT a_d_p z2, wR dT a_d_k z3, wV dT a_t z4, wK dT a_k z5, wV dT a0 z6, wF dT a1 z7]) C 113 0 3 dX9_play_112 rfl rfl rfl (vi_in g11) (by rw [ey12]; rfl) ?_
      obtain ⟨x13, ex13, hf⟩ := bnd_ex hf
      refine wa_iinc (v := x13) (lv' := [(0, .ref (a 0)), (1, .ref (a0 0)), (2, .ref (a1 0)), (3, .int l3), (4, .int l4), (5, .int x13), (6, .int l6), (7, .int l7), (8, .int l8)]) C 5 [1, 2, 3, 4, 5, 0, 6, 7, 8] 116 dX9_play_113 rfl rfl (by rw [ex13]; rfl) (Nat.le_of_ble_eq_true rfl) rfl ?_
      refine wa_goto C 3 dX9_play_116 rfl ?_
      refine wa_lv (lv' := [(0, .ref (a 0)), (1, .ref (a0 0)), (2, .ref (a1 0)), (3, .int l3), (4, .int l4), (5, .int x13)]) [0, 1, 2, 3, 4, 5] rfl ?_
      exact hk3 x13 y12 z1 z2 z3 z4 hf
    · replace hf := ite_f hf c6
      refine wa_aload_n C 0 62 dX9_play_61 rfl rfl ?_
      refine wa_get C 65 0 0 0 dX9_play_62 rfl iX9 q327 rfl (Nat.le_of_ble_eq_true rfl) rfl rfl rfl ?_
      refine wa_aload_n C 0 66 dX9_play_65 rfl rfl ?_
      refine wa_get C 69 0 0 1 dX9_play_66 rfl iX9 q328 rfl (Nat.le_of_ble_eq_true rfl) rfl rfl rfl ?_
      refine wa_iconst (v := 0) C 70 dX9_play_69 rfl rfl ?_
      obtain ⟨q14, hq14, hf⟩ := bind_ex hf
      refine wa_callVi (b1 := 1) (q1 := 0) (ci := 2) (ws' := [wT dT a (a_d 0) (a_t 0) (a_k 0) z0, wD dT a_d (a_d_p 0) (a_d_k 0) q14.2.1, wR dT a_d_p q14.2.2.1, wR dT a_d_k q14.2.2.2.1, wV dT a_t q14.2.2.2.2, wK dT a_k z5, wV dT a0 z6, wF dT a1 z7]) (As := [.ref (a_t 0), .int (0 : Int32)]) C 73 dX9_play_70 rfl kv_X9_80 (c_X2_pass hq14) ⟨rfl, rfl⟩ ⟨Nat.le_of_ble_eq_true rfl, Nat.le_of_ble_eq_true rfl⟩ rfl rfl rfl [1, 2, 3, 4] [0, 5, 6, 7] [0, 4, 5, 6, 7, 1, 2, 3] rfl rfl rfl rfl (by decide) rfl rfl rfl rfl ⟨Nat.zero_le _, Nat.zero_le _⟩ (Nat.le_of_ble_eq_true rfl) ?_
      refine wa_pop C 74 dX9_play_73 rfl rfl ?_
      obtain ⟨x15, ex15, hf⟩ := bnd_ex hf
      refine wa_iinc (v := x15) (lv' := [(0, .ref (a 0)), (1, .ref (a0 0)), (2, .ref (a1 0)), (3, .int l3), (4, .int l4), (5, .int l5), (6, .int l6), (7, .int l7), (8, .int x15)]) C 8 [1, 2, 3, 4, 5, 6, 7, 8, 0] 77 dX9_play_74 rfl rfl (by rw [ex15]; rfl) (Nat.le_of_ble_eq_true rfl) rfl ?_
      refine wa_goto C 54 dX9_play_77 rfl ?_
      exact ih x15 z0 q14.2.1 q14.2.2.1 q14.2.2.2.1 q14.2.2.2.2 hf
set_option maxRecDepth 20000 in
theorem w_X9_play_L3 {p : Program} {l : Launch} {e : Env} {s : State} {m : MethodId} {args : Array Value} {below : List Frame} {meth : Method} {c : Code} {D : va_G} {A : Nat → Prop} {dT : Nat → ClassId} {a : Nat → Nat} {a_d : Nat → Nat} {a_d_p : Nat → Nat} {a_d_k : Nat → Nat} {a_t : Nat → Nat} {a_k : Nat → Nat} {a0 : Nat → Nat} {a1 : Nat → Nat} {res : Ob × Ob × Ob × Ob × Ob} {l3 : Int32} {l4 : Int32} {z5 : Ob} {z6 : Ob} {z7 : Ob} (C : Cx p s m args meth c cX9_play 9 RX9 none D A dT) : ∀ (n : Nat) (l5 : Int32) (z0 : Ob) (z1 : Ob) (z2 : Ob) (z3 : Ob) (z4 : Ob), f_X9_play_L3 l3 l4 z5 z6 z7 n l5 z0 z1 z2 z3 z4 = some res → WA p l e ({ frames := 6, cells := 0, slots := 0, locals := 130 } : Room) s m args below meth c (MQ below (QV D dT A ([wT dT a (a_d 0) (a_t 0) (a_k 0) res.1, wD dT a_d (a_d_p 0) (a_d_k 0) res.2.1, wR dT a_d_p res.2.2.1, wR dT a_d_k res.2.2.2.1, wV dT a_t res.2.2.2.2, wK dT a_k z5, wV dT a0 z6, wF dT a1 z7])) args s 0 0 A) D A 0 0 9 3 ([wT dT a (a_d 0) (a_t 0) (a_k 0) z0, wD dT a_d (a_d_p 0) (a_d_k 0) z1, wR dT a_d_p z2, wR dT a_d_k z3, wV dT a_t z4, wK dT a_k z5, wV dT a0 z6, wF dT a1 z7]) [(0, .ref (a 0)), (1, .ref (a0 0)), (2, .ref (a1 0)), (3, .int l3), (4, .int l4), (5, .int l5)] [] := by
  intro n
  induction n with
  | zero => intro l5 z0 z1 z2 z3 z4 hf; cases hf
  | succ n ih =>
    intro l5 z0 z1 z2 z3 z4 hf
    unfold f_X9_play_L3 at hf
    refine wa_iload C 5 5 dX9_play_3 rfl rfl ?_
    refine wa_iconst (v := 4) C 6 dX9_play_5 rfl rfl ?_
    refine wa_icmp_ge C 119 9 dX9_play_6 rfl rfl (fun c1 => ?_) (fun c1 => ?_)
    · replace hf := ite_t hf c1
      cases hf
      exact wa_vret C dX9_play_119 rfl
    · replace hf := ite_f hf c1
      refine wa_iload C 5 11 dX9_play_9 rfl rfl ?_
      refine wa_iconst (v := 1) C 12 dX9_play_11 rfl rfl ?_
      refine wa_ishr C 13 dX9_play_12 rfl ?_
      obtain ⟨x2, ex2, hf⟩ := bnd_ex hf
      refine wa_topi ex2 ?_
      refine wa_istore (lv' := [(0, .ref (a 0)), (1, .ref (a0 0)), (2, .ref (a1 0)), (3, .int l3), (4, .int l4), (5, .int l5), (6, .int x2)]) C [1, 2, 3, 4, 5, 6, 0] 15 dX9_play_13 rfl (Nat.le_of_ble_eq_true rfl) rfl ?_
      refine wa_iload C 5 17 dX9_play_15 rfl rfl ?_
      refine wa_iconst (v := 1) C 18 dX9_play_17 rfl rfl ?_
      refine wa_iand C 19 dX9_play_18 rfl ?_
      obtain ⟨x3, ex3, hf⟩ := bnd_ex hf
      refine wa_topi ex3 ?_
      refine wa_istore (lv' := [(0, .ref (a 0)), (1, .ref (a0 0)), (2, .ref (a1 0)), (3, .int l3), (4, .int l4), (5, .int l5), (6, .int x2), (7, .int x3)]) C [1, 2, 3, 4, 5, 6, 7, 0] 21 dX9_play_19 rfl (Nat.le_of_ble_eq_true rfl) rfl ?_
      refine wa_aload_n C 0 22 dX9_play_21 rfl rfl ?_
      refine wa_get C 25 0 0 1 dX9_play_22 rfl iX9 q328 rfl (Nat.le_of_ble_eq_true rfl) rfl rfl rfl ?_
      refine wa_aload_n C 1 26 dX9_play_25 rfl rfl ?_
      obtain ⟨q4, hq4, hf⟩ := bind_ex hf
      refine wa_callVv (b1 := 4) (q1 := 0) (ci := 10) (ws' := [wT dT a (a_d 0) (a_t 0) (a_k 0) z0, wD dT a_d (a_d_p 0) (a_d_k 0) z1, wR dT a_d_p z2, wR dT a_d_k z3, wV dT a_t q4, wK dT a_k z5, wV dT a0 z6, wF dT a1 z7]) (As := [.ref (a0 0)]) C 29 dX9_play_26 rfl kv_X9_64 (c_X10_copyFrom hq4) ⟨rfl, rfl⟩ ⟨Nat.le_of_ble_eq_true rfl, Nat.le_of_ble_eq_true rfl⟩ rfl rfl rfl [4, 6] [0, 1, 2, 3, 5, 7] [0, 1, 2, 3, 6, 4, 7, 5] rfl rfl rfl rfl (by decide) rfl rfl rfl rfl ⟨Nat.zero_le _, Nat.zero_le _⟩ (Nat.le_of_ble_eq_true rfl) ?_
      refine wa_aload_n C 0 30 dX9_play_29 rfl rfl ?_
      refine wa_get C 33 0 0 0 dX9_play_30 rfl iX9 q327 rfl (Nat.le_of_ble_eq_true rfl) rfl rfl rfl ?_
      refine wa_aload_n C 0 34 dX9_play_33 rfl rfl ?_
      refine wa_get C 37 0 0 1 dX9_play_34 rfl iX9 q328 rfl (Nat.le_of_ble_eq_true rfl) rfl rfl rfl ?_
      refine wa_iload C 6 39 dX9_play_37 rfl rfl ?_
      refine wa_iload_n C 3 40 dX9_play_39 rfl rfl ?_
      refine wa_ishl C 41 dX9_play_40 rfl ?_
      refine wa_iload C 7 43 dX9_play_41 rfl rfl ?_
      refine wa_iload C 4 45 dX9_play_43 rfl rfl ?_
      refine wa_ishl C 46 dX9_play_45 rfl ?_
      refine wa_ior C 47 dX9_play_46 rfl ?_
      obtain ⟨q5, hq5, hf⟩ := bind_ex hf
      refine wa_callVi (b1 := 1) (q1 := 0) (ci := 2) (ws' := [wT dT a (a_d 0) (a_t 0) (a_k 0) z0, wD dT a_d (a_d_p 0) (a_d_k 0) q5.2.1, wR dT a_d_p q5.2.2.1, wR dT a_d_k q5.2.2.2.1, wV dT a_t q5.2.2.2.2, wK dT a_k z5, wV dT a0 z6, wF dT a1 z7]) (As := [.ref (a_t 0), .int ((x2 <<< (l3 &&& 31)) ||| (x3 <<< (l4 &&& 31)))]) C 50 dX9_play_47 rfl kv_X9_80 (c_X2_pass hq5) ⟨rfl, rfl⟩ ⟨Nat.le_of_ble_eq_true rfl, Nat.le_of_ble_eq_true rfl⟩ rfl rfl rfl [1, 2, 3, 4] [0, 5, 6, 7] [0, 4, 5, 6, 7, 1, 2, 3] rfl rfl rfl rfl (by decide) rfl rfl rfl rfl ⟨Nat.zero_le _, Nat.zero_le _⟩ (Nat.le_of_ble_eq_true rfl) ?_
      refine wa_pop C 51 dX9_play_50 rfl rfl ?_
      refine wa_iconst (v := 1) C 52 dX9_play_51 rfl rfl ?_
      refine wa_istore (lv' := [(0, .ref (a 0)), (1, .ref (a0 0)), (2, .ref (a1 0)), (3, .int l3), (4, .int l4), (5, .int l5), (6, .int x2), (7, .int x3), (8, .int (1 : Int32))]) C [1, 2, 3, 4, 5, 6, 7, 8, 0] 54 dX9_play_52 rfl (Nat.le_of_ble_eq_true rfl) rfl ?_
      exact w_X9_play_L54 C ih FUEL (1 : Int32) z0 q5.2.1 q5.2.2.1 q5.2.2.2.1 q5.2.2.2.2 hf
set_option maxRecDepth 20000 in
theorem c_X9_play {l : Launch} {D : va_G} {dT : Nat → ClassId} {a : Nat → Nat} {a_d : Nat → Nat} {a_d_p : Nat → Nat} {a_d_k : Nat → Nat} {a_t : Nat → Nat} {a_k : Nat → Nat} {a0 : Nat → Nat} {a1 : Nat → Nat} {v : Ob} {v_d : Ob} {v_d_p : Ob} {v_d_k : Ob} {v_t : Ob} {v_k : Ob} {v0 : Ob} {v1 : Ob} {p2 : Int32} {p3 : Int32} {res : Ob × Ob × Ob × Ob × Ob} (hf : f_X9_play v v_d v_d_p v_d_k v_t v_k v0 v1 p2 p3 = some res) : CTv l yX9_play cX9_play 9 none ({ frames := 6, cells := 0, slots := 0, locals := 130 } : Room) D dT [.ref (a 0), .ref (a0 0), .ref (a1 0), .int p2, .int p3] ([wT dT a (a_d 0) (a_t 0) (a_k 0) v, wD dT a_d (a_d_p 0) (a_d_k 0) v_d, wR dT a_d_p v_d_p, wR dT a_d_k v_d_k, wV dT a_t v_t, wK dT a_k v_k, wV dT a0 v0, wF dT a1 v1]) ([wT dT a (a_d 0) (a_t 0) (a_k 0) res.1, wD dT a_d (a_d_p 0) (a_d_k 0) res.2.1, wR dT a_d_p res.2.2.1, wR dT a_d_k res.2.2.2.1, wV dT a_t res.2.2.2.2, wK dT a_k v_k, wV dT a0 v0, wF dT a1 v1]) := by
  refine CTv.of (by decide) (Nat.le_of_ble_eq_true rfl) rfl ?_
  intro p e s m args below meth c A C
  unfold f_X9_play at hf
  refine wa_iconst (v := 0) C 1 dX9_play_0 rfl rfl ?_
  refine wa_istore (lv' := [(0, .ref (a 0)), (1, .ref (a0 0)), (2, .ref (a1 0)), (3, .int p2), (4, .int p3), (5, .int (0 : Int32))]) C [1, 2, 3, 4, 5, 0] 3 dX9_play_1 rfl (Nat.le_of_ble_eq_true rfl) rfl ?_
  exact w_X9_play_L3 C FUEL (0 : Int32) v v_d v_d_p v_d_k v_t hf
def f_X9_rests (v : Ob) (v_d : Ob) (v_d_p : Ob) (v_d_k : Ob) (v_t : Ob) (v_k : Ob) (p0 : Int32) : Option (Int32) := grd (vi p0 4) (grd (vi (p0 ^^^ (2 : Int32)) 4) ((if (v.2 2 (p0).toNatClampNeg) < (v.2 2 ((p0 ^^^ (2 : Int32))).toNatClampNeg) then some ((0 : Int32)) else grd (vi p0 4) (grd (vi (p0 ^^^ (1 : Int32)) 4) ((if (v.2 3 (p0).toNatClampNeg) < (v.2 3 ((p0 ^^^ (1 : Int32))).toNatClampNeg) then some ((0 : Int32)) else some ((1 : Int32))))))))
set_option maxRecDepth 20000 in
theorem c_X9_rests {l : Launch} {D : va_G} {dT : Nat → ClassId} {a : Nat → Nat} {a_d : Nat → Nat} {a_d_p : Nat → Nat} {a_d_k : Nat → Nat} {a_t : Nat → Nat} {a_k : Nat → Nat} {v : Ob} {v_d : Ob} {v_d_p : Ob} {v_d_k : Ob} {v_t : Ob} {v_k : Ob} {p0 : Int32} {res : Int32} (hf : f_X9_rests v v_d v_d_p v_d_k v_t v_k p0 = some res) : CTi l yX9_rests cX9_rests 2 (some .boolean) ({ frames := 0, cells := 0, slots := 0, locals := 0 } : Room) D dT [.ref (a 0), .int p0] ([wT dT a (a_d 0) (a_t 0) (a_k 0) v, wD dT a_d (a_d_p 0) (a_d_k 0) v_d, wR dT a_d_p v_d_p, wR dT a_d_k v_d_k, wV dT a_t v_t, wK dT a_k v_k]) ([wT dT a (a_d 0) (a_t 0) (a_k 0) v, wD dT a_d (a_d_p 0) (a_d_k 0) v_d, wR dT a_d_p v_d_p, wR dT a_d_k v_d_k, wV dT a_t v_t, wK dT a_k v_k]) res := by
  refine CTi.of (by decide) (Nat.le_of_ble_eq_true rfl) rfl ?_
  intro p e s m args below meth c A C
  unfold f_X9_rests at hf
  refine wa_aload_n C 0 1 dX9_rests_0 rfl rfl ?_
  refine wa_get C 4 0 0 6 dX9_rests_1 rfl iX9 q335 rfl (Nat.le_of_ble_eq_true rfl) rfl rfl rfl ?_
  refine wa_iload_n C 1 5 dX9_rests_4 rfl rfl ?_
  obtain ⟨g1, hf⟩ := grd_ex hf
  refine wa_iald C 6 0 2 dX9_rests_5 rfl rfl rfl (vi_in g1) ?_
  refine wa_aload_n C 0 7 dX9_rests_6 rfl rfl ?_
  refine wa_get C 10 0 0 6 dX9_rests_7 rfl iX9 q335 rfl (Nat.le_of_ble_eq_true rfl) rfl rfl rfl ?_
  refine wa_iload_n C 1 11 dX9_rests_10 rfl rfl ?_
  refine wa_iconst (v := 2) C 12 dX9_rests_11 rfl rfl ?_
  refine wa_ixor C 13 dX9_rests_12 rfl ?_
  obtain ⟨g2, hf⟩ := grd_ex hf
  refine wa_iald C 14 0 2 dX9_rests_13 rfl rfl rfl (vi_in g2) ?_
  refine wa_icmp_lt C 38 17 dX9_rests_14 rfl rfl (fun c3 => ?_) (fun c3 => ?_)
  · replace hf := ite_t hf c3
    refine wa_iconst (v := 0) C 39 dX9_rests_38 rfl rfl ?_
    cases hf
    exact wa_zret C dX9_rests_39 rfl rfl rfl
  · replace hf := ite_f hf c3
    refine wa_aload_n C 0 18 dX9_rests_17 rfl rfl ?_
    refine wa_get C 21 0 0 7 dX9_rests_18 rfl iX9 q336 rfl (Nat.le_of_ble_eq_true rfl) rfl rfl rfl ?_
    refine wa_iload_n C 1 22 dX9_rests_21 rfl rfl ?_
    obtain ⟨g4, hf⟩ := grd_ex hf
    refine wa_iald C 23 0 3 dX9_rests_22 rfl rfl rfl (vi_in g4) ?_
    refine wa_aload_n C 0 24 dX9_rests_23 rfl rfl ?_
    refine wa_get C 27 0 0 7 dX9_rests_24 rfl iX9 q336 rfl (Nat.le_of_ble_eq_true rfl) rfl rfl rfl ?_
    refine wa_iload_n C 1 28 dX9_rests_27 rfl rfl ?_
    refine wa_iconst (v := 1) C 29 dX9_rests_28 rfl rfl ?_
    refine wa_ixor C 30 dX9_rests_29 rfl ?_
    obtain ⟨g5, hf⟩ := grd_ex hf
    refine wa_iald C 31 0 3 dX9_rests_30 rfl rfl rfl (vi_in g5) ?_
    refine wa_icmp_lt C 38 34 dX9_rests_31 rfl rfl (fun c6 => ?_) (fun c6 => ?_)
    · replace hf := ite_t hf c6
      refine wa_iconst (v := 0) C 39 dX9_rests_38 rfl rfl ?_
      cases hf
      exact wa_zret C dX9_rests_39 rfl rfl rfl
    · replace hf := ite_f hf c6
      refine wa_iconst (v := 1) C 35 dX9_rests_34 rfl rfl ?_
      refine wa_goto C 39 dX9_rests_35 rfl ?_
      cases hf
      exact wa_zret C dX9_rests_39 rfl rfl rfl
theorem kv_X9_159 : KV RX9 159 yX9_rests cX9_rests 2 (some .boolean) 1 := KV.mk q1387 q1389 qs43 q12 q1390 ⟨by decide, by decide, by decide +kernel⟩
def f_X9_restsMany_L4 (z0 : Ob) (z1 : Ob) (z2 : Ob) (z3 : Ob) (z4 : Ob) (z5 : Ob) : Nat → Int32 → Int32 → Option (Int32)
  | 0, _, _ => none
  | n + 1, l1, l2 => (if (4 : Int32) ≤ l2 then some (l1) else (f_X9_rests z0 z1 z2 z3 z4 z5 l2).bind (fun q2 => (if q2 = 0 then bnd (l2 + 1) (fun x4 => f_X9_restsMany_L4 z0 z1 z2 z3 z4 z5 n l1 x4) else bnd (l1 + 1) (fun x5 => bnd (l2 + 1) (fun x6 => f_X9_restsMany_L4 z0 z1 z2 z3 z4 z5 n x5 x6)))))
def f_X9_restsMany (v : Ob) (v_d : Ob) (v_d_p : Ob) (v_d_k : Ob) (v_t : Ob) (v_k : Ob) : Option (Int32) := f_X9_restsMany_L4 v v_d v_d_p v_d_k v_t v_k FUEL (0 : Int32) (0 : Int32)
set_option maxRecDepth 20000 in
theorem w_X9_restsMany_L4 {p : Program} {l : Launch} {e : Env} {s : State} {m : MethodId} {args : Array Value} {below : List Frame} {meth : Method} {c : Code} {D : va_G} {A : Nat → Prop} {dT : Nat → ClassId} {a : Nat → Nat} {a_d : Nat → Nat} {a_d_p : Nat → Nat} {a_d_k : Nat → Nat} {a_t : Nat → Nat} {a_k : Nat → Nat} {res : Int32} {z0 : Ob} {z1 : Ob} {z2 : Ob} {z3 : Ob} {z4 : Ob} {z5 : Ob} (C : Cx p s m args meth c cX9_restsMany 3 RX9 (some .int) D A dT) : ∀ (n : Nat) (l1 : Int32) (l2 : Int32), f_X9_restsMany_L4 z0 z1 z2 z3 z4 z5 n l1 l2 = some res → WA p l e ({ frames := 1, cells := 0, slots := 0, locals := 21 } : Room) s m args below meth c (MQ below (QI D dT A ([wT dT a (a_d 0) (a_t 0) (a_k 0) z0, wD dT a_d (a_d_p 0) (a_d_k 0) z1, wR dT a_d_p z2, wR dT a_d_k z3, wV dT a_t z4, wK dT a_k z5]) res) args s 0 0 A) D A 0 0 3 4 ([wT dT a (a_d 0) (a_t 0) (a_k 0) z0, wD dT a_d (a_d_p 0) (a_d_k 0) z1, wR dT a_d_p z2, wR dT a_d_k z3, wV dT a_t z4, wK dT a_k z5]) [(0, .ref (a 0)), (1, .int l1), (2, .int l2)] [] := by
  intro n
  induction n with
  | zero => intro l1 l2 hf; cases hf
  | succ n ih =>
    intro l1 l2 hf
    unfold f_X9_restsMany_L4 at hf
    refine wa_iload_n C 2 5 dX9_restsMany_4 rfl rfl ?_
    refine wa_iconst (v := 4) C 6 dX9_restsMany_5 rfl rfl ?_
    refine wa_icmp_ge C 26 9 dX9_restsMany_6 rfl rfl (fun c1 => ?_) (fun c1 => ?_)
    · replace hf := ite_t hf c1
      refine wa_iload_n C 1 27 dX9_restsMany_26 rfl rfl ?_
      cases hf
      exact wa_iret C dX9_restsMany_27 rfl rfl
    · replace hf := ite_f hf c1
      refine wa_aload_n C 0 10 dX9_restsMany_9 rfl rfl ?_
      refine wa_iload_n C 2 11 dX9_restsMany_10 rfl rfl ?_
      obtain ⟨q2, hq2, hf⟩ := bind_ex hf
      refine wa_callVAi (b1 := 0) (q1 := 0) (ci := 9) (As := [.int l2]) C 14 dX9_restsMany_11 rfl kv_X9_159 (c_X9_rests hq2) ⟨rfl, rfl⟩ ⟨Nat.le_of_ble_eq_true rfl, Nat.le_of_ble_eq_true rfl⟩ rfl rfl rfl rfl rfl ⟨Nat.zero_le _, Nat.zero_le _⟩ (Nat.le_of_ble_eq_true rfl) ?_
      refine wa_if_eq C 20 17 dX9_restsMany_14 rfl rfl (fun c3 => ?_) (fun c3 => ?_)
      · replace hf := ite_t hf c3
        obtain ⟨x4, ex4, hf⟩ := bnd_ex hf
        refine wa_iinc (v := x4) (lv' := [(0, .ref (a 0)), (1, .int l1), (2, .int x4)]) C 2 [1, 2, 0] 23 dX9_restsMany_20 rfl rfl (by rw [ex4]; rfl) (Nat.le_of_ble_eq_true rfl) rfl ?_
        refine wa_goto C 4 dX9_restsMany_23 rfl ?_
        exact ih l1 x4 hf
      · replace hf := ite_f hf c3
        obtain ⟨x5, ex5, hf⟩ := bnd_ex hf
        refine wa_iinc (v := x5) (lv' := [(0, .ref (a 0)), (1, .int x5), (2, .int l2)]) C 1 [1, 0, 2] 20 dX9_restsMany_17 rfl rfl (by rw [ex5]; rfl) (Nat.le_of_ble_eq_true rfl) rfl ?_
        obtain ⟨x6, ex6, hf⟩ := bnd_ex hf
        refine wa_iinc (v := x6) (lv' := [(0, .ref (a 0)), (1, .int x5), (2, .int x6)]) C 2 [1, 2, 0] 23 dX9_restsMany_20 rfl rfl (by rw [ex6]; rfl) (Nat.le_of_ble_eq_true rfl) rfl ?_
        refine wa_goto C 4 dX9_restsMany_23 rfl ?_
        exact ih x5 x6 hf
set_option maxRecDepth 20000 in
theorem c_X9_restsMany {l : Launch} {D : va_G} {dT : Nat → ClassId} {a : Nat → Nat} {a_d : Nat → Nat} {a_d_p : Nat → Nat} {a_d_k : Nat → Nat} {a_t : Nat → Nat} {a_k : Nat → Nat} {v : Ob} {v_d : Ob} {v_d_p : Ob} {v_d_k : Ob} {v_t : Ob} {v_k : Ob} {res : Int32} (hf : f_X9_restsMany v v_d v_d_p v_d_k v_t v_k = some res) : CTi l yX9_restsMany cX9_restsMany 3 (some .int) ({ frames := 1, cells := 0, slots := 0, locals := 21 } : Room) D dT [.ref (a 0)] ([wT dT a (a_d 0) (a_t 0) (a_k 0) v, wD dT a_d (a_d_p 0) (a_d_k 0) v_d, wR dT a_d_p v_d_p, wR dT a_d_k v_d_k, wV dT a_t v_t, wK dT a_k v_k]) ([wT dT a (a_d 0) (a_t 0) (a_k 0) v, wD dT a_d (a_d_p 0) (a_d_k 0) v_d, wR dT a_d_p v_d_p, wR dT a_d_k v_d_k, wV dT a_t v_t, wK dT a_k v_k]) res := by
  refine CTi.of (by decide) (Nat.le_of_ble_eq_true rfl) rfl ?_
  intro p e s m args below meth c A C
  unfold f_X9_restsMany at hf
  refine wa_iconst (v := 0) C 1 dX9_restsMany_0 rfl rfl ?_
  refine wa_istore_n (lv' := [(0, .ref (a 0)), (1, .int (0 : Int32))]) C [1, 0] 2 dX9_restsMany_1 rfl (Nat.le_of_ble_eq_true rfl) rfl ?_
  refine wa_iconst (v := 0) C 3 dX9_restsMany_2 rfl rfl ?_
  refine wa_istore_n (lv' := [(0, .ref (a 0)), (1, .int (0 : Int32)), (2, .int (0 : Int32))]) C [1, 2, 0] 4 dX9_restsMany_3 rfl (Nat.le_of_ble_eq_true rfl) rfl ?_
  exact w_X9_restsMany_L4 C FUEL (0 : Int32) (0 : Int32) hf
def f_X9_restsFirst_L2 (z0 : Ob) (z1 : Ob) (z2 : Ob) (z3 : Ob) (z4 : Ob) (z5 : Ob) : Nat → Int32 → Option (Int32)
  | 0, _ => none
  | n + 1, l1 => (if (4 : Int32) ≤ l1 then some ((-1 : Int32)) else (f_X9_rests z0 z1 z2 z3 z4 z5 l1).bind (fun q2 => (if q2 = 0 then bnd (l1 + 1) (fun x4 => f_X9_restsFirst_L2 z0 z1 z2 z3 z4 z5 n x4) else some ((((10 : Int32) * (l1 >>> ((1 : Int32) &&& 31))) + (l1 &&& (1 : Int32)))))))
def f_X9_restsFirst (v : Ob) (v_d : Ob) (v_d_p : Ob) (v_d_k : Ob) (v_t : Ob) (v_k : Ob) : Option (Int32) := f_X9_restsFirst_L2 v v_d v_d_p v_d_k v_t v_k FUEL (0 : Int32)
set_option maxRecDepth 20000 in
theorem w_X9_restsFirst_L2 {p : Program} {l : Launch} {e : Env} {s : State} {m : MethodId} {args : Array Value} {below : List Frame} {meth : Method} {c : Code} {D : va_G} {A : Nat → Prop} {dT : Nat → ClassId} {a : Nat → Nat} {a_d : Nat → Nat} {a_d_p : Nat → Nat} {a_d_k : Nat → Nat} {a_t : Nat → Nat} {a_k : Nat → Nat} {res : Int32} {z0 : Ob} {z1 : Ob} {z2 : Ob} {z3 : Ob} {z4 : Ob} {z5 : Ob} (C : Cx p s m args meth c cX9_restsFirst 2 RX9 (some .int) D A dT) : ∀ (n : Nat) (l1 : Int32), f_X9_restsFirst_L2 z0 z1 z2 z3 z4 z5 n l1 = some res → WA p l e ({ frames := 1, cells := 0, slots := 0, locals := 21 } : Room) s m args below meth c (MQ below (QI D dT A ([wT dT a (a_d 0) (a_t 0) (a_k 0) z0, wD dT a_d (a_d_p 0) (a_d_k 0) z1, wR dT a_d_p z2, wR dT a_d_k z3, wV dT a_t z4, wK dT a_k z5]) res) args s 0 0 A) D A 0 0 2 2 ([wT dT a (a_d 0) (a_t 0) (a_k 0) z0, wD dT a_d (a_d_p 0) (a_d_k 0) z1, wR dT a_d_p z2, wR dT a_d_k z3, wV dT a_t z4, wK dT a_k z5]) [(0, .ref (a 0)), (1, .int l1)] [] := by
  intro n
  induction n with
  | zero => intro l1 hf; cases hf
  | succ n ih =>
    intro l1 hf
    unfold f_X9_restsFirst_L2 at hf
    refine wa_iload_n C 1 3 dX9_restsFirst_2 rfl rfl ?_
    refine wa_iconst (v := 4) C 4 dX9_restsFirst_3 rfl rfl ?_
    refine wa_icmp_ge C 32 7 dX9_restsFirst_4 rfl rfl (fun c1 => ?_) (fun c1 => ?_)
    · replace hf := ite_t hf c1
      refine wa_iconst (v := (-1)) C 33 dX9_restsFirst_32 rfl rfl ?_
      cases hf
      exact wa_iret C dX9_restsFirst_33 rfl rfl
    · replace hf := ite_f hf c1
      refine wa_aload_n C 0 8 dX9_restsFirst_7 rfl rfl ?_
      refine wa_iload_n C 1 9 dX9_restsFirst_8 rfl rfl ?_
      obtain ⟨q2, hq2, hf⟩ := bind_ex hf
      refine wa_callVAi (b1 := 0) (q1 := 0) (ci := 9) (As := [.int l1]) C 12 dX9_restsFirst_9 rfl kv_X9_159 (c_X9_rests hq2) ⟨rfl, rfl⟩ ⟨Nat.le_of_ble_eq_true rfl, Nat.le_of_ble_eq_true rfl⟩ rfl rfl rfl rfl rfl ⟨Nat.zero_le _, Nat.zero_le _⟩ (Nat.le_of_ble_eq_true rfl) ?_
      refine wa_if_eq C 26 15 dX9_restsFirst_12 rfl rfl (fun c3 => ?_) (fun c3 => ?_)
      · replace hf := ite_t hf c3
        obtain ⟨x4, ex4, hf⟩ := bnd_ex hf
        refine wa_iinc (v := x4) (lv' := [(0, .ref (a 0)), (1, .int x4)]) C 1 [1, 0] 29 dX9_restsFirst_26 rfl rfl (by rw [ex4]; rfl) (Nat.le_of_ble_eq_true rfl) rfl ?_
        refine wa_goto C 2 dX9_restsFirst_29 rfl ?_
        exact ih x4 hf
      · replace hf := ite_f hf c3
        refine wa_bipush (v := 10) C 17 dX9_restsFirst_15 rfl rfl ?_
        refine wa_iload_n C 1 18 dX9_restsFirst_17 rfl rfl ?_
        refine wa_iconst (v := 1) C 19 dX9_restsFirst_18 rfl rfl ?_
        refine wa_ishr C 20 dX9_restsFirst_19 rfl ?_
        refine wa_imul C 21 dX9_restsFirst_20 rfl ?_
        refine wa_iload_n C 1 22 dX9_restsFirst_21 rfl rfl ?_
        refine wa_iconst (v := 1) C 23 dX9_restsFirst_22 rfl rfl ?_
        refine wa_iand C 24 dX9_restsFirst_23 rfl ?_
        refine wa_iadd C 25 dX9_restsFirst_24 rfl ?_
        cases hf
        exact wa_iret C dX9_restsFirst_25 rfl rfl
set_option maxRecDepth 20000 in
theorem c_X9_restsFirst {l : Launch} {D : va_G} {dT : Nat → ClassId} {a : Nat → Nat} {a_d : Nat → Nat} {a_d_p : Nat → Nat} {a_d_k : Nat → Nat} {a_t : Nat → Nat} {a_k : Nat → Nat} {v : Ob} {v_d : Ob} {v_d_p : Ob} {v_d_k : Ob} {v_t : Ob} {v_k : Ob} {res : Int32} (hf : f_X9_restsFirst v v_d v_d_p v_d_k v_t v_k = some res) : CTi l yX9_restsFirst cX9_restsFirst 2 (some .int) ({ frames := 1, cells := 0, slots := 0, locals := 21 } : Room) D dT [.ref (a 0)] ([wT dT a (a_d 0) (a_t 0) (a_k 0) v, wD dT a_d (a_d_p 0) (a_d_k 0) v_d, wR dT a_d_p v_d_p, wR dT a_d_k v_d_k, wV dT a_t v_t, wK dT a_k v_k]) ([wT dT a (a_d 0) (a_t 0) (a_k 0) v, wD dT a_d (a_d_p 0) (a_d_k 0) v_d, wR dT a_d_p v_d_p, wR dT a_d_k v_d_k, wV dT a_t v_t, wK dT a_k v_k]) res := by
  refine CTi.of (by decide) (Nat.le_of_ble_eq_true rfl) rfl ?_
  intro p e s m args below meth c A C
  unfold f_X9_restsFirst at hf
  refine wa_iconst (v := 0) C 1 dX9_restsFirst_0 rfl rfl ?_
  refine wa_istore_n (lv' := [(0, .ref (a 0)), (1, .int (0 : Int32))]) C [1, 0] 2 dX9_restsFirst_1 rfl (Nat.le_of_ble_eq_true rfl) rfl ?_
  exact w_X9_restsFirst_L2 C FUEL (0 : Int32) hf
def f_X9_draw (v : Ob) (v_d : Ob) (v_d_p : Ob) (v_d_k : Ob) (v_t : Ob) (v_k : Ob) (p0 : Int32) : Option (Int32 × Ob) := bnd (upd v.1 8 (((v.1 8) * (1103515245 : Int32)) + (12345 : Int32)), v.2) (fun y1 => (if p0 ≤ 0 then some ((0 : Int32), y1) else grd (decide (¬ p0 = 0)) (some ((((((y1.1 8).toUInt32 >>> ((16 : Int32).toUInt32 &&& Int32.toUInt32 31)).toInt32) &&& (32767 : Int32)) - ((((y1.1 8).toUInt32 >>> ((16 : Int32).toUInt32 &&& Int32.toUInt32 31)).toInt32) &&& (32767 : Int32)) / p0 * p0), y1))))
set_option maxRecDepth 20000 in
theorem c_X9_draw {l : Launch} {D : va_G} {dT : Nat → ClassId} {a : Nat → Nat} {a_d : Nat → Nat} {a_d_p : Nat → Nat} {a_d_k : Nat → Nat} {a_t : Nat → Nat} {a_k : Nat → Nat} {v : Ob} {v_d : Ob} {v_d_p : Ob} {v_d_k : Ob} {v_t : Ob} {v_k : Ob} {p0 : Int32} {res : Int32 × Ob} (hf : f_X9_draw v v_d v_d_p v_d_k v_t v_k p0 = some res) : CTi l yX9_draw cX9_draw 2 (some .int) ({ frames := 0, cells := 0, slots := 0, locals := 0 } : Room) D dT [.ref (a 0), .int p0] ([wT dT a (a_d 0) (a_t 0) (a_k 0) v, wD dT a_d (a_d_p 0) (a_d_k 0) v_d, wR dT a_d_p v_d_p, wR dT a_d_k v_d_k, wV dT a_t v_t, wK dT a_k v_k]) ([wT dT a (a_d 0) (a_t 0) (a_k 0) res.2, wD dT a_d (a_d_p 0) (a_d_k 0) v_d, wR dT a_d_p v_d_p, wR dT a_d_k v_d_k, wV dT a_t v_t, wK dT a_k v_k]) res.1 := by
  refine CTi.of (by decide) (Nat.le_of_ble_eq_true rfl) rfl ?_
  intro p e s m args below meth c A C
  unfold f_X9_draw at hf
  refine wa_aload_n C 0 1 dX9_draw_0 rfl rfl ?_
  refine wa_aload_n C 0 2 dX9_draw_1 rfl rfl ?_
  refine wa_get C 5 0 0 8 dX9_draw_2 rfl iX9 q337 rfl (Nat.le_of_ble_eq_true rfl) rfl rfl rfl ?_
  refine wa_ldc (v := 1103515245) C 7 dX9_draw_5 rfl q1410 ?_
  refine wa_imul C 8 dX9_draw_7 rfl ?_
  refine wa_sipush (v := 12345) C 11 dX9_draw_8 rfl rfl ?_
  refine wa_iadd C 12 dX9_draw_11 rfl ?_
  obtain ⟨y1, ey1, hf⟩ := bnd_ex hf
  refine wa_put (ws' := [wT dT a (a_d 0) (a_t 0) (a_k 0) y1, wD dT a_d (a_d_p 0) (a_d_k 0) v_d, wR dT a_d_p v_d_p, wR dT a_d_k v_d_k, wV dT a_t v_t, wK dT a_k v_k]) C 15 0 0 8 tyX9 dX9_draw_12 rfl iX9 tyX9_ok nmX9 q337 rfl (Nat.le_of_ble_eq_true rfl) rfl rfl rfl rfl rfl (Nat.le_of_ble_eq_true rfl) (by rw [ey1]; rfl) ?_
  refine wa_iload_n C 1 16 dX9_draw_15 rfl rfl ?_
  refine wa_if_le C 35 19 dX9_draw_16 rfl rfl (fun c2 => ?_) (fun c2 => ?_)
  · replace hf := ite_t hf c2
    refine wa_iconst (v := 0) C 36 dX9_draw_35 rfl rfl ?_
    cases hf
    exact wa_iret C dX9_draw_36 rfl rfl
  · replace hf := ite_f hf c2
    refine wa_aload_n C 0 20 dX9_draw_19 rfl rfl ?_
    refine wa_get C 23 0 0 8 dX9_draw_20 rfl iX9 q337 rfl (Nat.le_of_ble_eq_true rfl) rfl rfl rfl ?_
    refine wa_bipush (v := 16) C 25 dX9_draw_23 rfl rfl ?_
    refine wa_iushr C 26 dX9_draw_25 rfl ?_
    refine wa_sipush (v := 32767) C 29 dX9_draw_26 rfl rfl ?_
    refine wa_iand C 30 dX9_draw_29 rfl ?_
    refine wa_iload_n C 1 31 dX9_draw_30 rfl rfl ?_
    obtain ⟨g3, hf⟩ := grd_ex hf
    refine wa_irem C 32 dX9_draw_31 rfl (of_decide_eq_true g3) ?_
    refine wa_goto C 36 dX9_draw_32 rfl ?_
    cases hf
    exact wa_iret C dX9_draw_36 rfl rfl
theorem kv_X9_162 : KV RX9 162 yX9_draw cX9_draw 2 (some .int) 1 := KV.mk q1406 q1408 qs44 q12 q1409 ⟨by decide, by decide, by decide +kernel⟩
theorem kv_X9_172 : KV RX9 172 yX10_isAlone cX10_isAlone 2 (some .boolean) 1 := KV.mk q1415 q950 q951 q3 q952 ⟨by decide, by decide, by decide +kernel⟩
theorem kv_X9_175 : KV RX9 175 yX10_foundBy cX10_foundBy 2 none 1 := KV.mk q1416 q1088 q1089 q3 q1090 ⟨by decide, by decide, by decide +kernel⟩
def f_X9_befall (v : Ob) (v_d : Ob) (v_d_p : Ob) (v_d_k : Ob) (v_t : Ob) (v_k : Ob) (p0 : Int32) : Option (Ob × Ob) := (if (v_t.1 0) = 0 then some (v, v_t) else (if p0 = 0 then (f_X9_draw v v_d v_d_p v_d_k v_t v_k (v_t.1 0)).bind (fun q12 => (f_X10_isAlone v_t q12.1).bind (fun q13 => (if q13 = 0 then (f_X10_foundBy v_t q12.1).bind (fun q15 => some (q12.2, q15)) else some (q12.2, v_t)))) else (if p0 = (1 : Int32) then (f_X9_draw v v_d v_d_p v_d_k v_t v_k (v_t.1 0)).bind (fun q8 => (f_X9_draw q8.2 v_d v_d_p v_d_k v_t v_k (10 : Int32)).bind (fun q9 => grd (vi q8.1 12) (bnd (v_t.1, uA v_t.2 1 (q8.1).toNatClampNeg q9.1) (fun y11 => some (q9.2, y11))))) else (if p0 = (2 : Int32) then (f_X9_draw v v_d v_d_p v_d_k v_t v_k (v_t.1 1)).bind (fun q5 => (if q5.1 = 0 then some (q5.2, v_t) else (f_X10_joinTo v_t q5.1 (0 : Int32)).bind (fun q7 => some (q5.2, q7)))) else some (v, v_t)))))
set_option maxRecDepth 20000 in
theorem c_X9_befall {l : Launch} {D : va_G} {dT : Nat → ClassId} {a : Nat → Nat} {a_d : Nat → Nat} {a_d_p : Nat → Nat} {a_d_k : Nat → Nat} {a_t : Nat → Nat} {a_k : Nat → Nat} {v : Ob} {v_d : Ob} {v_d_p : Ob} {v_d_k : Ob} {v_t : Ob} {v_k : Ob} {p0 : Int32} {res : Ob × Ob} (hf : f_X9_befall v v_d v_d_p v_d_k v_t v_k p0 = some res) : CTv l yX9_befall cX9_befall 3 none ({ frames := 5, cells := 0, slots := 0, locals := 102 } : Room) D dT [.ref (a 0), .int p0] ([wT dT a (a_d 0) (a_t 0) (a_k 0) v, wD dT a_d (a_d_p 0) (a_d_k 0) v_d, wR dT a_d_p v_d_p, wR dT a_d_k v_d_k, wV dT a_t v_t, wK dT a_k v_k]) ([wT dT a (a_d 0) (a_t 0) (a_k 0) res.1, wD dT a_d (a_d_p 0) (a_d_k 0) v_d, wR dT a_d_p v_d_p, wR dT a_d_k v_d_k, wV dT a_t res.2, wK dT a_k v_k]) := by
  refine CTv.of (by decide) (Nat.le_of_ble_eq_true rfl) rfl ?_
  intro p e s m args below meth c A C
  unfold f_X9_befall at hf
  refine wa_aload_n C 0 1 dX9_befall_0 rfl rfl ?_
  refine wa_get C 4 0 0 1 dX9_befall_1 rfl iX9 q328 rfl (Nat.le_of_ble_eq_true rfl) rfl rfl rfl ?_
  refine wa_get C 7 4 0 0 dX9_befall_4 rfl iX10 q49 rfl (Nat.le_of_ble_eq_true rfl) rfl rfl rfl ?_
  refine wa_if_ne C 11 10 dX9_befall_7 rfl rfl (fun c1 => ?_) (fun c1 => ?_)
  · replace hf := ite_f hf c1
    refine wa_iload_n C 1 12 dX9_befall_11 rfl rfl ?_
    refine wa_if_ne C 49 15 dX9_befall_12 rfl rfl (fun c2 => ?_) (fun c2 => ?_)
    · replace hf := ite_f hf c2
      refine wa_iload_n C 1 50 dX9_befall_49 rfl rfl ?_
      refine wa_iconst (v := 1) C 51 dX9_befall_50 rfl rfl ?_
      refine wa_icmp_ne C 84 54 dX9_befall_51 rfl rfl (fun c3 => ?_) (fun c3 => ?_)
      · replace hf := ite_f hf c3
        refine wa_iload_n C 1 85 dX9_befall_84 rfl rfl ?_
        refine wa_iconst (v := 2) C 86 dX9_befall_85 rfl rfl ?_
        refine wa_icmp_ne C 114 89 dX9_befall_86 rfl rfl (fun c4 => ?_) (fun c4 => ?_)
        · replace hf := ite_f hf c4
          cases hf
          exact wa_vret C dX9_befall_114 rfl
        · replace hf := ite_t hf c4
          refine wa_aload_n C 0 90 dX9_befall_89 rfl rfl ?_
          refine wa_aload_n C 0 91 dX9_befall_90 rfl rfl ?_
          refine wa_get C 94 0 0 1 dX9_befall_91 rfl iX9 q328 rfl (Nat.le_of_ble_eq_true rfl) rfl rfl rfl ?_
          refine wa_get C 97 4 0 1 dX9_befall_94 rfl iX10 q58 rfl (Nat.le_of_ble_eq_true rfl) rfl rfl rfl ?_
          obtain ⟨q5, hq5, hf⟩ := bind_ex hf
          refine wa_callVAi (b1 := 0) (q1 := 0) (ci := 9) (As := [.int (v_t.1 1)]) C 100 dX9_befall_97 rfl kv_X9_162 (c_X9_draw hq5) ⟨rfl, rfl⟩ ⟨Nat.le_of_ble_eq_true rfl, Nat.le_of_ble_eq_true rfl⟩ rfl rfl rfl rfl rfl ⟨Nat.zero_le _, Nat.zero_le _⟩ (Nat.le_of_ble_eq_true rfl) ?_
          refine wa_istore_n (lv' := [(0, .ref (a 0)), (1, .int p0), (2, .int q5.1)]) C [1, 2, 0] 101 dX9_befall_100 rfl (Nat.le_of_ble_eq_true rfl) rfl ?_
          refine wa_iload_n C 2 102 dX9_befall_101 rfl rfl ?_
          refine wa_if_eq C 114 105 dX9_befall_102 rfl rfl (fun c6 => ?_) (fun c6 => ?_)
          · replace hf := ite_t hf c6
            cases hf
            exact wa_vret C dX9_befall_114 rfl
          · replace hf := ite_f hf c6
            refine wa_aload_n C 0 106 dX9_befall_105 rfl rfl ?_
            refine wa_get C 109 0 0 1 dX9_befall_106 rfl iX9 q328 rfl (Nat.le_of_ble_eq_true rfl) rfl rfl rfl ?_
            refine wa_iload_n C 2 110 dX9_befall_109 rfl rfl ?_
            refine wa_iconst (v := 0) C 111 dX9_befall_110 rfl rfl ?_
            obtain ⟨q7, hq7, hf⟩ := bind_ex hf
            refine wa_callVv (b1 := 4) (q1 := 0) (ci := 10) (ws' := [wT dT a (a_d 0) (a_t 0) (a_k 0) q5.2, wD dT a_d (a_d_p 0) (a_d_k 0) v_d, wR dT a_d_p v_d_p, wR dT a_d_k v_d_k, wV dT a_t q7, wK dT a_k v_k]) (As := [.int q5.1, .int (0 : Int32)]) C 114 dX9_befall_111 rfl kv_X9_86 (c_X10_joinTo hq7) ⟨rfl, rfl⟩ ⟨Nat.le_of_ble_eq_true rfl, Nat.le_of_ble_eq_true rfl⟩ rfl rfl rfl [4] [0, 1, 2, 3, 5] [0, 1, 2, 3, 5, 4] rfl rfl rfl rfl (by decide) rfl rfl rfl rfl ⟨Nat.zero_le _, Nat.zero_le _⟩ (Nat.le_of_ble_eq_true rfl) ?_
            cases hf
            exact wa_vret C dX9_befall_114 rfl
      · replace hf := ite_t hf c3
        refine wa_aload_n C 0 55 dX9_befall_54 rfl rfl ?_
        refine wa_aload_n C 0 56 dX9_befall_55 rfl rfl ?_
        refine wa_get C 59 0 0 1 dX9_befall_56 rfl iX9 q328 rfl (Nat.le_of_ble_eq_true rfl) rfl rfl rfl ?_
        refine wa_get C 62 4 0 0 dX9_befall_59 rfl iX10 q49 rfl (Nat.le_of_ble_eq_true rfl) rfl rfl rfl ?_
        obtain ⟨q8, hq8, hf⟩ := bind_ex hf
        refine wa_callVAi (b1 := 0) (q1 := 0) (ci := 9) (As := [.int (v_t.1 0)]) C 65 dX9_befall_62 rfl kv_X9_162 (c_X9_draw hq8) ⟨rfl, rfl⟩ ⟨Nat.le_of_ble_eq_true rfl, Nat.le_of_ble_eq_true rfl⟩ rfl rfl rfl rfl rfl ⟨Nat.zero_le _, Nat.zero_le _⟩ (Nat.le_of_ble_eq_true rfl) ?_
        refine wa_istore_n (lv' := [(0, .ref (a 0)), (1, .int p0), (2, .int q8.1)]) C [1, 2, 0] 66 dX9_befall_65 rfl (Nat.le_of_ble_eq_true rfl) rfl ?_
        refine wa_aload_n C 0 67 dX9_befall_66 rfl rfl ?_
        refine wa_get C 70 0 0 1 dX9_befall_67 rfl iX9 q328 rfl (Nat.le_of_ble_eq_true rfl) rfl rfl rfl ?_
        refine wa_get C 73 4 0 3 dX9_befall_70 rfl iX10 q69 rfl (Nat.le_of_ble_eq_true rfl) rfl rfl rfl ?_
        refine wa_iload_n C 2 74 dX9_befall_73 rfl rfl ?_
        refine wa_aload_n C 0 75 dX9_befall_74 rfl rfl ?_
        refine wa_bipush (v := 10) C 77 dX9_befall_75 rfl rfl ?_
        obtain ⟨q9, hq9, hf⟩ := bind_ex hf
        refine wa_callVAi (b1 := 0) (q1 := 0) (ci := 9) (As := [.int (10 : Int32)]) C 80 dX9_befall_77 rfl kv_X9_162 (c_X9_draw hq9) ⟨rfl, rfl⟩ ⟨Nat.le_of_ble_eq_true rfl, Nat.le_of_ble_eq_true rfl⟩ rfl rfl rfl rfl rfl ⟨Nat.zero_le _, Nat.zero_le _⟩ (Nat.le_of_ble_eq_true rfl) ?_
        obtain ⟨g10, hf⟩ := grd_ex hf
        obtain ⟨y11, ey11, hf⟩ := bnd_ex hf
        refine wa_iast (ws' := [wT dT a (a_d 0) (a_t 0) (a_k 0) q9.2, wD dT a_d (a_d_p 0) (a_d_k 0) v_d, wR dT a_d_p v_d_p, wR dT a_d_k v_d_k, wV dT a_t y11, wK dT a_k v_k]) C 81 4 1 dX9_befall_80 rfl rfl rfl (vi_in g10) (by rw [ey11]; rfl) ?_
        refine wa_goto C 114 dX9_befall_81 rfl ?_
        cases hf
        exact wa_vret C dX9_befall_114 rfl
    · replace hf := ite_t hf c2
      refine wa_aload_n C 0 16 dX9_befall_15 rfl rfl ?_
      refine wa_aload_n C 0 17 dX9_befall_16 rfl rfl ?_
      refine wa_get C 20 0 0 1 dX9_befall_17 rfl iX9 q328 rfl (Nat.le_of_ble_eq_true rfl) rfl rfl rfl ?_
      refine wa_get C 23 4 0 0 dX9_befall_20 rfl iX10 q49 rfl (Nat.le_of_ble_eq_true rfl) rfl rfl rfl ?_
      obtain ⟨q12, hq12, hf⟩ := bind_ex hf
      refine wa_callVAi (b1 := 0) (q1 := 0) (ci := 9) (As := [.int (v_t.1 0)]) C 26 dX9_befall_23 rfl kv_X9_162 (c_X9_draw hq12) ⟨rfl, rfl⟩ ⟨Nat.le_of_ble_eq_true rfl, Nat.le_of_ble_eq_true rfl⟩ rfl rfl rfl rfl rfl ⟨Nat.zero_le _, Nat.zero_le _⟩ (Nat.le_of_ble_eq_true rfl) ?_
      refine wa_istore_n (lv' := [(0, .ref (a 0)), (1, .int p0), (2, .int q12.1)]) C [1, 2, 0] 27 dX9_befall_26 rfl (Nat.le_of_ble_eq_true rfl) rfl ?_
      refine wa_aload_n C 0 28 dX9_befall_27 rfl rfl ?_
      refine wa_get C 31 0 0 1 dX9_befall_28 rfl iX9 q328 rfl (Nat.le_of_ble_eq_true rfl) rfl rfl rfl ?_
      refine wa_iload_n C 2 32 dX9_befall_31 rfl rfl ?_
      obtain ⟨q13, hq13, hf⟩ := bind_ex hf
      refine wa_callVi (b1 := 4) (q1 := 0) (ci := 10) (ws' := [wT dT a (a_d 0) (a_t 0) (a_k 0) q12.2, wD dT a_d (a_d_p 0) (a_d_k 0) v_d, wR dT a_d_p v_d_p, wR dT a_d_k v_d_k, wV dT a_t v_t, wK dT a_k v_k]) (As := [.int q12.1]) C 35 dX9_befall_32 rfl kv_X9_172 (c_X10_isAlone hq13) ⟨rfl, rfl⟩ ⟨Nat.le_of_ble_eq_true rfl, Nat.le_of_ble_eq_true rfl⟩ rfl rfl rfl [4] [0, 1, 2, 3, 5] [0, 1, 2, 3, 5, 4] rfl rfl rfl rfl (by decide) rfl rfl rfl rfl ⟨Nat.zero_le _, Nat.zero_le _⟩ (Nat.le_of_ble_eq_true rfl) ?_
      refine wa_if_ne C 46 38 dX9_befall_35 rfl rfl (fun c14 => ?_) (fun c14 => ?_)
      · replace hf := ite_f hf c14
        refine wa_goto C 114 dX9_befall_46 rfl ?_
        cases hf
        exact wa_vret C dX9_befall_114 rfl
      · replace hf := ite_t hf c14
        refine wa_aload_n C 0 39 dX9_befall_38 rfl rfl ?_
        refine wa_get C 42 0 0 1 dX9_befall_39 rfl iX9 q328 rfl (Nat.le_of_ble_eq_true rfl) rfl rfl rfl ?_
        refine wa_iload_n C 2 43 dX9_befall_42 rfl rfl ?_
        obtain ⟨q15, hq15, hf⟩ := bind_ex hf
        refine wa_callVv (b1 := 4) (q1 := 0) (ci := 10) (ws' := [wT dT a (a_d 0) (a_t 0) (a_k 0) q12.2, wD dT a_d (a_d_p 0) (a_d_k 0) v_d, wR dT a_d_p v_d_p, wR dT a_d_k v_d_k, wV dT a_t q15, wK dT a_k v_k]) (As := [.int q12.1]) C 46 dX9_befall_43 rfl kv_X9_175 (c_X10_foundBy hq15) ⟨rfl, rfl⟩ ⟨Nat.le_of_ble_eq_true rfl, Nat.le_of_ble_eq_true rfl⟩ rfl rfl rfl [4] [0, 1, 2, 3, 5] [0, 1, 2, 3, 5, 4] rfl rfl rfl rfl (by decide) rfl rfl rfl rfl ⟨Nat.zero_le _, Nat.zero_le _⟩ (Nat.le_of_ble_eq_true rfl) ?_
        refine wa_goto C 114 dX9_befall_46 rfl ?_
        cases hf
        exact wa_vret C dX9_befall_114 rfl
  · replace hf := ite_t hf c1
    cases hf
    exact wa_vret C dX9_befall_10 rfl
theorem kv_X9_165 : KV RX9 165 yX9_befall cX9_befall 3 none 1 := KV.mk q1411 q1413 qs45 q12 q1414 ⟨by decide, by decide, by decide +kernel⟩
theorem kv_X9_169 : KV RX9 169 yX10_greatest cX10_greatest 3 (some .int) 0 := KV.mk q1417 q941 q942 q3 q943 ⟨by decide, by decide, by decide +kernel⟩
def f_X9_liveYears_L19 (l3 : Int32) (l4 : Int32) (z5 : Ob) (z6 : Ob) : Nat → Int32 → Int32 → Ob → Ob → Ob → Ob → Ob → Option (Int32 × Ob × Ob × Ob × Ob × Ob)
  | 0, _, _, _, _, _, _, _ => none
  | n + 1, l5, l6, z0, z1, z2, z3, z4 => (if l3 ≤ l6 then (if l4 = 0 then some (l5, z0, z1, z2, z3, z4) else (if l4 = 1 then some ((z4.1 1), z0, z1, z2, z3, z4) else (f_X10_greatest z4).bind (fun q6 => some (q6, z0, z1, z2, z3, z4)))) else (f_X9_draw z0 z1 z2 z3 z4 z5 (6 : Int32)).bind (fun q7 => (f_X9_befall q7.2 z1 z2 z3 z4 z5 q7.1).bind (fun q8 => (f_X2_pass z1 z2 z3 q8.2 (0 : Int32)).bind (fun q9 => (f_J6_bitCount_0f7a4 q9.1).bind (fun q10 => bnd (l5 + q10) (fun x11 => bnd (l6 + 1) (fun x12 => f_X9_liveYears_L19 l3 l4 z5 z6 n x11 x12 q8.1 q9.2.1 q9.2.2.1 q9.2.2.2.1 q9.2.2.2.2)))))))
def f_X9_liveYears (v : Ob) (v_d : Ob) (v_d_p : Ob) (v_d_k : Ob) (v_t : Ob) (v_k : Ob) (v0 : Ob) (p1 : Int32) (p2 : Int32) (p3 : Int32) : Option (Int32 × Ob × Ob × Ob × Ob × Ob) := bnd (upd v.1 8 p1, v.2) (fun y1 => (f_X10_copyFrom v_t v0).bind (fun q2 => f_X9_liveYears_L19 p2 p3 v_k v0 FUEL (0 : Int32) (0 : Int32) y1 v_d v_d_p v_d_k q2))
set_option maxRecDepth 20000 in
theorem w_X9_liveYears_L19 {p : Program} {l : Launch} {e : Env} {s : State} {m : MethodId} {args : Array Value} {below : List Frame} {meth : Method} {c : Code} {D : va_G} {A : Nat → Prop} {dT : Nat → ClassId} {a : Nat → Nat} {a_d : Nat → Nat} {a_d_p : Nat → Nat} {a_d_k : Nat → Nat} {a_t : Nat → Nat} {a_k : Nat → Nat} {a0 : Nat → Nat} {res : Int32 × Ob × Ob × Ob × Ob × Ob} {l3 : Int32} {l4 : Int32} {z5 : Ob} {z6 : Ob} (C : Cx p s m args meth c cX9_liveYears 7 RX9 (some .int) D A dT) : ∀ (n : Nat) (l5 : Int32) (l6 : Int32) (z0 : Ob) (z1 : Ob) (z2 : Ob) (z3 : Ob) (z4 : Ob), f_X9_liveYears_L19 l3 l4 z5 z6 n l5 l6 z0 z1 z2 z3 z4 = some res → WA p l e ({ frames := 6, cells := 0, slots := 0, locals := 130 } : Room) s m args below meth c (MQ below (QI D dT A ([wT dT a (a_d 0) (a_t 0) (a_k 0) res.2.1, wD dT a_d (a_d_p 0) (a_d_k 0) res.2.2.1, wR dT a_d_p res.2.2.2.1, wR dT a_d_k res.2.2.2.2.1, wV dT a_t res.2.2.2.2.2, wK dT a_k z5, wV dT a0 z6]) res.1) args s 0 0 A) D A 0 0 7 19 ([wT dT a (a_d 0) (a_t 0) (a_k 0) z0, wD dT a_d (a_d_p 0) (a_d_k 0) z1, wR dT a_d_p z2, wR dT a_d_k z3, wV dT a_t z4, wK dT a_k z5, wV dT a0 z6]) [(0, .ref (a 0)), (3, .int l3), (4, .int l4), (5, .int l5), (6, .int l6)] [] := by
  intro n
  induction n with
  | zero => intro l5 l6 z0 z1 z2 z3 z4 hf; cases hf
  | succ n ih =>
    intro l5 l6 z0 z1 z2 z3 z4 hf
    unfold f_X9_liveYears_L19 at hf
    refine wa_iload C 4 21 dX9_liveYears_19 rfl rfl ?_
    refine wa_iload_n C 1 22 dX9_liveYears_21 rfl rfl ?_
    refine wa_icmp_ge C 61 25 dX9_liveYears_22 rfl rfl (fun c3 => ?_) (fun c3 => ?_)
    · replace hf := ite_t hf c3
      refine wa_iload C 2 63 dX9_liveYears_61 rfl rfl ?_
      by_cases c4 : l4 = 0
      · replace hf := ite_t hf c4
        refine wa_ls C (25) 88 dX9_liveYears_63 rfl (by rw [c4]; rfl) rfl ?_
        refine wa_iload C 3 90 dX9_liveYears_88 rfl rfl ?_
        cases hf
        exact wa_iret C dX9_liveYears_90 rfl rfl
      · replace hf := ite_f hf c4
        by_cases c5 : l4 = 1
        · replace hf := ite_t hf c5
          refine wa_ls C (28) 91 dX9_liveYears_63 rfl (by rw [c5]; rfl) rfl ?_
          refine wa_aload_n C 0 92 dX9_liveYears_91 rfl rfl ?_
          refine wa_get C 95 0 0 1 dX9_liveYears_92 rfl iX9 q328 rfl (Nat.le_of_ble_eq_true rfl) rfl rfl rfl ?_
          refine wa_get C 98 4 0 1 dX9_liveYears_95 rfl iX10 q58 rfl (Nat.le_of_ble_eq_true rfl) rfl rfl rfl ?_
          cases hf
          exact wa_iret C dX9_liveYears_98 rfl rfl
        · replace hf := ite_f hf c5
          refine wa_ls C (36) 99 dX9_liveYears_63 rfl (by rw [show (#[(0, 25), (1, 28)] : Array (Int × Int)).toList = [(0, 25), (1, 28)] from rfl, lookupswitch.offset_cons, if_neg (ls_ne (a := 0) rfl c4), lookupswitch.offset_cons, if_neg (ls_ne (a := 1) rfl c5)]; rfl) rfl ?_
          refine wa_aload_n C 0 100 dX9_liveYears_99 rfl rfl ?_
          refine wa_get C 103 0 0 1 dX9_liveYears_100 rfl iX9 q328 rfl (Nat.le_of_ble_eq_true rfl) rfl rfl rfl ?_
          obtain ⟨q6, hq6, hf⟩ := bind_ex hf
          refine wa_callVi (b1 := 4) (q1 := 0) (ci := 10) (ws' := [wT dT a (a_d 0) (a_t 0) (a_k 0) z0, wD dT a_d (a_d_p 0) (a_d_k 0) z1, wR dT a_d_p z2, wR dT a_d_k z3, wV dT a_t z4, wK dT a_k z5, wV dT a0 z6]) (As := []) C 106 dX9_liveYears_103 rfl kv_X9_169 (c_X10_greatest hq6) ⟨rfl, rfl⟩ ⟨Nat.le_of_ble_eq_true rfl, Nat.le_of_ble_eq_true rfl⟩ rfl rfl rfl [4] [0, 1, 2, 3, 5, 6] [0, 1, 2, 3, 6, 4, 5] rfl rfl rfl rfl (by decide) rfl rfl rfl rfl ⟨Nat.zero_le _, Nat.zero_le _⟩ (Nat.le_of_ble_eq_true rfl) ?_
          cases hf
          exact wa_iret C dX9_liveYears_106 rfl rfl
    · replace hf := ite_f hf c3
      refine wa_aload_n C 0 26 dX9_liveYears_25 rfl rfl ?_
      refine wa_aload_n C 0 27 dX9_liveYears_26 rfl rfl ?_
      refine wa_bipush (v := 6) C 29 dX9_liveYears_27 rfl rfl ?_
      obtain ⟨q7, hq7, hf⟩ := bind_ex hf
      refine wa_callVi (b1 := 0) (q1 := 0) (ci := 9) (ws' := [wT dT a (a_d 0) (a_t 0) (a_k 0) q7.2, wD dT a_d (a_d_p 0) (a_d_k 0) z1, wR dT a_d_p z2, wR dT a_d_k z3, wV dT a_t z4, wK dT a_k z5, wV dT a0 z6]) (As := [.int (6 : Int32)]) C 32 dX9_liveYears_29 rfl kv_X9_162 (c_X9_draw hq7) ⟨rfl, rfl⟩ ⟨Nat.le_of_ble_eq_true rfl, Nat.le_of_ble_eq_true rfl⟩ rfl rfl rfl [0, 1, 2, 3, 4, 5] [6] [1, 2, 3, 4, 5, 6, 0] rfl rfl rfl rfl (by decide) rfl rfl rfl rfl ⟨Nat.zero_le _, Nat.zero_le _⟩ (Nat.le_of_ble_eq_true rfl) ?_
      obtain ⟨q8, hq8, hf⟩ := bind_ex hf
      refine wa_callVv (b1 := 0) (q1 := 0) (ci := 9) (ws' := [wT dT a (a_d 0) (a_t 0) (a_k 0) q8.1, wD dT a_d (a_d_p 0) (a_d_k 0) z1, wR dT a_d_p z2, wR dT a_d_k z3, wV dT a_t q8.2, wK dT a_k z5, wV dT a0 z6]) (As := [.int q7.1]) C 35 dX9_liveYears_32 rfl kv_X9_165 (c_X9_befall hq8) ⟨rfl, rfl⟩ ⟨Nat.le_of_ble_eq_true rfl, Nat.le_of_ble_eq_true rfl⟩ rfl rfl rfl [0, 1, 2, 3, 4, 5] [6] [1, 2, 3, 4, 5, 6, 0] rfl rfl rfl rfl (by decide) rfl rfl rfl rfl ⟨Nat.zero_le _, Nat.zero_le _⟩ (Nat.le_of_ble_eq_true rfl) ?_
      refine wa_iload C 3 37 dX9_liveYears_35 rfl rfl ?_
      refine wa_aload_n C 0 38 dX9_liveYears_37 rfl rfl ?_
      refine wa_get C 41 0 0 0 dX9_liveYears_38 rfl iX9 q327 rfl (Nat.le_of_ble_eq_true rfl) rfl rfl rfl ?_
      refine wa_aload_n C 0 42 dX9_liveYears_41 rfl rfl ?_
      refine wa_get C 45 0 0 1 dX9_liveYears_42 rfl iX9 q328 rfl (Nat.le_of_ble_eq_true rfl) rfl rfl rfl ?_
      refine wa_iconst (v := 0) C 46 dX9_liveYears_45 rfl rfl ?_
      obtain ⟨q9, hq9, hf⟩ := bind_ex hf
      refine wa_callVi (b1 := 1) (q1 := 0) (ci := 2) (ws' := [wT dT a (a_d 0) (a_t 0) (a_k 0) q8.1, wD dT a_d (a_d_p 0) (a_d_k 0) q9.2.1, wR dT a_d_p q9.2.2.1, wR dT a_d_k q9.2.2.2.1, wV dT a_t q9.2.2.2.2, wK dT a_k z5, wV dT a0 z6]) (As := [.ref (a_t 0), .int (0 : Int32)]) C 49 dX9_liveYears_46 rfl kv_X9_80 (c_X2_pass hq9) ⟨rfl, rfl⟩ ⟨Nat.le_of_ble_eq_true rfl, Nat.le_of_ble_eq_true rfl⟩ rfl rfl rfl [1, 2, 3, 4] [0, 5, 6] [0, 3, 4, 5, 6, 1, 2] rfl rfl rfl rfl (by decide) rfl rfl rfl rfl ⟨Nat.zero_le _, Nat.zero_le _⟩ (Nat.le_of_ble_eq_true rfl) ?_
      obtain ⟨q10, hq10, hf⟩ := bind_ex hf
      refine wa_callS0i (As := [.int q9.1]) C 52 dX9_liveYears_49 rfl ks_X9_136 (c_J6_bitCount_0f7a4 hq10) ⟨rfl, rfl⟩ ⟨Nat.le_of_ble_eq_true rfl, Nat.le_of_ble_eq_true rfl⟩ rfl rfl ⟨Nat.zero_le _, Nat.zero_le _⟩ (Nat.le_of_ble_eq_true rfl) ?_
      refine wa_iadd C 53 dX9_liveYears_52 rfl ?_
      obtain ⟨x11, ex11, hf⟩ := bnd_ex hf
      refine wa_topi ex11 ?_
      refine wa_istore (lv' := [(0, .ref (a 0)), (3, .int l3), (4, .int l4), (5, .int x11), (6, .int l6)]) C [1, 2, 3, 0, 4] 55 dX9_liveYears_53 rfl (Nat.le_of_ble_eq_true rfl) rfl ?_
      obtain ⟨x12, ex12, hf⟩ := bnd_ex hf
      refine wa_iinc (v := x12) (lv' := [(0, .ref (a 0)), (3, .int l3), (4, .int l4), (5, .int x11), (6, .int x12)]) C 4 [1, 2, 3, 4, 0] 58 dX9_liveYears_55 rfl rfl (by rw [ex12]; rfl) (Nat.le_of_ble_eq_true rfl) rfl ?_
      refine wa_goto C 19 dX9_liveYears_58 rfl ?_
      exact ih x11 x12 q8.1 q9.2.1 q9.2.2.1 q9.2.2.2.1 q9.2.2.2.2 hf
set_option maxRecDepth 20000 in
theorem c_X9_liveYears {l : Launch} {D : va_G} {dT : Nat → ClassId} {a : Nat → Nat} {a_d : Nat → Nat} {a_d_p : Nat → Nat} {a_d_k : Nat → Nat} {a_t : Nat → Nat} {a_k : Nat → Nat} {a0 : Nat → Nat} {v : Ob} {v_d : Ob} {v_d_p : Ob} {v_d_k : Ob} {v_t : Ob} {v_k : Ob} {v0 : Ob} {p1 : Int32} {p2 : Int32} {p3 : Int32} {res : Int32 × Ob × Ob × Ob × Ob × Ob} (hf : f_X9_liveYears v v_d v_d_p v_d_k v_t v_k v0 p1 p2 p3 = some res) : CTi l yX9_liveYears cX9_liveYears 7 (some .int) ({ frames := 6, cells := 0, slots := 0, locals := 130 } : Room) D dT [.ref (a 0), .ref (a0 0), .int p1, .int p2, .int p3] ([wT dT a (a_d 0) (a_t 0) (a_k 0) v, wD dT a_d (a_d_p 0) (a_d_k 0) v_d, wR dT a_d_p v_d_p, wR dT a_d_k v_d_k, wV dT a_t v_t, wK dT a_k v_k, wV dT a0 v0]) ([wT dT a (a_d 0) (a_t 0) (a_k 0) res.2.1, wD dT a_d (a_d_p 0) (a_d_k 0) res.2.2.1, wR dT a_d_p res.2.2.2.1, wR dT a_d_k res.2.2.2.2.1, wV dT a_t res.2.2.2.2.2, wK dT a_k v_k, wV dT a0 v0]) res.1 := by
  refine CTi.of (by decide) (Nat.le_of_ble_eq_true rfl) rfl ?_
  intro p e s m args below meth c A C
  unfold f_X9_liveYears at hf
  refine wa_aload_n C 0 1 dX9_liveYears_0 rfl rfl ?_
  refine wa_iload_n C 2 2 dX9_liveYears_1 rfl rfl ?_
  obtain ⟨y1, ey1, hf⟩ := bnd_ex hf
  refine wa_put (ws' := [wT dT a (a_d 0) (a_t 0) (a_k 0) y1, wD dT a_d (a_d_p 0) (a_d_k 0) v_d, wR dT a_d_p v_d_p, wR dT a_d_k v_d_k, wV dT a_t v_t, wK dT a_k v_k, wV dT a0 v0]) C 5 0 0 8 tyX9 dX9_liveYears_2 rfl iX9 tyX9_ok nmX9 q337 rfl (Nat.le_of_ble_eq_true rfl) rfl rfl rfl rfl rfl (Nat.le_of_ble_eq_true rfl) (by rw [ey1]; rfl) ?_
  refine wa_aload_n C 0 6 dX9_liveYears_5 rfl rfl ?_
  refine wa_get C 9 0 0 1 dX9_liveYears_6 rfl iX9 q328 rfl (Nat.le_of_ble_eq_true rfl) rfl rfl rfl ?_
  refine wa_aload_n C 1 10 dX9_liveYears_9 rfl rfl ?_
  obtain ⟨q2, hq2, hf⟩ := bind_ex hf
  refine wa_callVv (b1 := 4) (q1 := 0) (ci := 10) (ws' := [wT dT a (a_d 0) (a_t 0) (a_k 0) y1, wD dT a_d (a_d_p 0) (a_d_k 0) v_d, wR dT a_d_p v_d_p, wR dT a_d_k v_d_k, wV dT a_t q2, wK dT a_k v_k, wV dT a0 v0]) (As := [.ref (a0 0)]) C 13 dX9_liveYears_10 rfl kv_X9_64 (c_X10_copyFrom hq2) ⟨rfl, rfl⟩ ⟨Nat.le_of_ble_eq_true rfl, Nat.le_of_ble_eq_true rfl⟩ rfl rfl rfl [4, 6] [0, 1, 2, 3, 5] [0, 1, 2, 3, 5, 4, 6] rfl rfl rfl rfl (by decide) rfl rfl rfl rfl ⟨Nat.zero_le _, Nat.zero_le _⟩ (Nat.le_of_ble_eq_true rfl) ?_
  refine wa_iconst (v := 0) C 14 dX9_liveYears_13 rfl rfl ?_
  refine wa_istore (lv' := [(0, .ref (a 0)), (1, .ref (a0 0)), (2, .int p1), (3, .int p2), (4, .int p3), (5, .int (0 : Int32))]) C [1, 2, 3, 4, 5, 0] 16 dX9_liveYears_14 rfl (Nat.le_of_ble_eq_true rfl) rfl ?_
  refine wa_iconst (v := 0) C 17 dX9_liveYears_16 rfl rfl ?_
  refine wa_istore (lv' := [(0, .ref (a 0)), (1, .ref (a0 0)), (2, .int p1), (3, .int p2), (4, .int p3), (5, .int (0 : Int32)), (6, .int (0 : Int32))]) C [1, 2, 3, 4, 5, 6, 0] 19 dX9_liveYears_17 rfl (Nat.le_of_ble_eq_true rfl) rfl ?_
  refine wa_lv (lv' := [(0, .ref (a 0)), (3, .int p2), (4, .int p3), (5, .int (0 : Int32)), (6, .int (0 : Int32))]) [0, 3, 4, 5, 6] rfl ?_
  exact w_X9_liveYears_L19 C FUEL (0 : Int32) (0 : Int32) y1 v_d v_d_p v_d_k q2 hf
