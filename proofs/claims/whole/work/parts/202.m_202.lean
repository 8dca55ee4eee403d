def f_X12_begins_J18 (z0 : MS) : Option (Int32 × MS) := (f_X12_isGood z0).bind (fun q3 => (if q3 = 0 then some ((0 : Int32), z0) else (f_X12_takes z0).bind (fun q5 => some ((1 : Int32), q5))))
def f_X12_begins_J9 (l2 : Int32) (z0 : MS) : Option (Int32 × MS) := (if l2 = 0 then f_X12_begins_J18 z0 else (f_X12_wrong z0 (5 : Int32)).bind (fun q6 => f_X12_begins_J18 q6))
def f_X12_begins (v : MS) (p0 : Int32) (p1 : Int32) : Option (Int32 × MS) := (if p0 = 0 then f_X12_begins_J9 p1 v else (f_X12_wrong v (2 : Int32)).bind (fun q7 => f_X12_begins_J9 p1 q7))
set_option maxRecDepth 20000 in
theorem w_X12_begins_J18 {p : Program} {l : Launch} {e : Env} {s : State} {m : MethodId} {args : Array Value} {below : List Frame} {meth : Method} {c : Code} {D : va_G} {A : Nat → Prop} {dT : Nat → ClassId} {a : Nat → Nat} {res : Int32 × MS} (C : Cx p s m args meth c cX12_begins 3 RX12 (some .boolean) D A dT) : ∀ (z0 : MS), f_X12_begins_J18 z0 = some res → WA p l e ({ frames := 2, cells := 0, slots := 0, locals := 42 } : Room) s m args below meth c (MQ below (QI D dT A ([wM dT a res.2]) res.1) args s 0 0 A) D A 0 0 3 18 ([wM dT a z0]) [(0, .ref (a 0))] [] := by
  intro z0 hf
  unfold f_X12_begins_J18 at hf
  refine wa_aload_n C 0 19 dX12_begins_18 rfl rfl ?_
  obtain ⟨q3, hq3, hf⟩ := bind_ex hf
  refine wa_callVAi (b1 := 0) (q1 := 0) (ci := 12) (As := []) C 22 dX12_begins_19 rfl kv_X12_155 (c_X12_isGood hq3) ⟨rfl, rfl⟩ ⟨Nat.le_of_ble_eq_true rfl, Nat.le_of_ble_eq_true rfl⟩ rfl rfl rfl rfl rfl ⟨Nat.zero_le _, Nat.zero_le _⟩ (Nat.le_of_ble_eq_true rfl) ?_
  refine wa_if_ne C 27 25 dX12_begins_22 rfl rfl (fun c4 => ?_) (fun c4 => ?_)
  · replace hf := ite_f hf c4
    refine wa_aload_n C 0 28 dX12_begins_27 rfl rfl ?_
    obtain ⟨q5, hq5, hf⟩ := bind_ex hf
    refine wa_callVAv (b1 := 0) (q1 := 0) (ci := 12) (As := []) C 31 dX12_begins_28 rfl kv_X12_159 (c_X12_takes hq5) ⟨rfl, rfl⟩ ⟨Nat.le_of_ble_eq_true rfl, Nat.le_of_ble_eq_true rfl⟩ rfl rfl rfl rfl rfl ⟨Nat.zero_le _, Nat.zero_le _⟩ (Nat.le_of_ble_eq_true rfl) ?_
    refine wa_iconst (v := 1) C 32 dX12_begins_31 rfl rfl ?_
    cases hf
    exact wa_zret C dX12_begins_32 rfl rfl rfl
  · replace hf := ite_t hf c4
    refine wa_iconst (v := 0) C 26 dX12_begins_25 rfl rfl ?_
    cases hf
    exact wa_zret C dX12_begins_26 rfl rfl rfl
set_option maxRecDepth 20000 in
theorem w_X12_begins_J9 {p : Program} {l : Launch} {e : Env} {s : State} {m : MethodId} {args : Array Value} {below : List Frame} {meth : Method} {c : Code} {D : va_G} {A : Nat → Prop} {dT : Nat → ClassId} {a : Nat → Nat} {res : Int32 × MS} (C : Cx p s m args meth c cX12_begins 3 RX12 (some .boolean) D A dT) : ∀ (l2 : Int32) (z0 : MS), f_X12_begins_J9 l2 z0 = some res → WA p l e ({ frames := 2, cells := 0, slots := 0, locals := 42 } : Room) s m args below meth c (MQ below (QI D dT A ([wM dT a res.2]) res.1) args s 0 0 A) D A 0 0 3 9 ([wM dT a z0]) [(0, .ref (a 0)), (2, .int l2)] [] := by
  intro l2 z0 hf
  unfold f_X12_begins_J9 at hf
  refine wa_iload_n C 1 10 dX12_begins_9 rfl rfl ?_
  refine wa_if_eq C 18 13 dX12_begins_10 rfl rfl (fun c2 => ?_) (fun c2 => ?_)
  · replace hf := ite_t hf c2
    refine wa_lv (lv' := [(0, .ref (a 0))]) [0] rfl ?_
    exact w_X12_begins_J18 C z0 hf
  · replace hf := ite_f hf c2
    refine wa_aload_n C 0 14 dX12_begins_13 rfl rfl ?_
    refine wa_iconst (v := 5) C 15 dX12_begins_14 rfl rfl ?_
    obtain ⟨q6, hq6, hf⟩ := bind_ex hf
    refine wa_callVAv (b1 := 0) (q1 := 0) (ci := 12) (As := [.int (5 : Int32)]) C 18 dX12_begins_15 rfl kv_X12_162 (c_X12_wrong hq6) ⟨rfl, rfl⟩ ⟨Nat.le_of_ble_eq_true rfl, Nat.le_of_ble_eq_true rfl⟩ rfl rfl rfl rfl rfl ⟨Nat.zero_le _, Nat.zero_le _⟩ (Nat.le_of_ble_eq_true rfl) ?_
    refine wa_lv (lv' := [(0, .ref (a 0))]) [0] rfl ?_
    exact w_X12_begins_J18 C q6 hf
set_option maxRecDepth 20000 in
theorem c_X12_begins {l : Launch} {D : va_G} {dT : Nat → ClassId} {a : Nat → Nat} {v : MS} {p0 : Int32} {p1 : Int32} {res : Int32 × MS} (hf : f_X12_begins v p0 p1 = some res) : CTi l yX12_begins cX12_begins 3 (some .boolean) ({ frames := 2, cells := 0, slots := 0, locals := 42 } : Room) D dT [.ref (a 0), .int p0, .int p1] ([wM dT a v]) ([wM dT a res.2]) res.1 := by
  refine CTi.of (by decide) (Nat.le_of_ble_eq_true rfl) rfl ?_
  intro p e s m args below meth c A C
  unfold f_X12_begins at hf
  refine wa_iload_n C 1 1 dX12_begins_0 rfl rfl ?_
  refine wa_if_eq C 9 4 dX12_begins_1 rfl rfl (fun c1 => ?_) (fun c1 => ?_)
  · replace hf := ite_t hf c1
    refine wa_lv (lv' := [(0, .ref (a 0)), (2, .int p1)]) [0, 2] rfl ?_
    exact w_X12_begins_J9 C p1 v hf
  · replace hf := ite_f hf c1
    refine wa_aload_n C 0 5 dX12_begins_4 rfl rfl ?_
    refine wa_iconst (v := 2) C 6 dX12_begins_5 rfl rfl ?_
    obtain ⟨q7, hq7, hf⟩ := bind_ex hf
    refine wa_callVAv (b1 := 0) (q1 := 0) (ci := 12) (As := [.int (2 : Int32)]) C 9 dX12_begins_6 rfl kv_X12_162 (c_X12_wrong hq7) ⟨rfl, rfl⟩ ⟨Nat.le_of_ble_eq_true rfl, Nat.le_of_ble_eq_true rfl⟩ rfl rfl rfl rfl rfl ⟨Nat.zero_le _, Nat.zero_le _⟩ (Nat.le_of_ble_eq_true rfl) ?_
    refine wa_lv (lv' := [(0, .ref (a 0)), (2, .int p1)]) [0, 2] rfl ?_
    exact w_X12_begins_J9 C p1 q7 hf
theorem kv_X12_221 : KV RX12 221 yX12_number cX12_number 4 (some .int) 2 := KV.mk q1693 q1695 qs56 q13 q1696 ⟨by decide, by decide, by decide +kernel⟩
def f_X12_readsPerson (v : MS) : Option (MS) := bnd (v.1 20) (fun x1 => (f_X12_number v (0 : Int32) (9 : Int32)).bind (fun q2 => grd (vi ((50 : Int32) + x1) 86) (bnd (q2.2.1, q2.2.2.1, uA q2.2.2.2 6 (((50 : Int32) + x1)).toNatClampNeg q2.1) (fun y4 => grd (vi ((2 : Int32) + x1) 86) (bnd (y4.1, y4.2.1, uA y4.2.2 6 (((2 : Int32) + x1)).toNatClampNeg (-1 : Int32)) (fun y6 => (f_X12_isGood y6).bind (fun q7 => (if q7 = 0 then some (y6) else bnd (upd y6.1 20 ((y6.1 20) + (1 : Int32)), y6.2) (fun y9 => some (y9))))))))))
set_option maxRecDepth 20000 in
theorem c_X12_readsPerson {l : Launch} {D : va_G} {dT : Nat → ClassId} {a : Nat → Nat} {v : MS} {res : MS} (hf : f_X12_readsPerson v = some res) : CTv l yX12_readsPerson cX12_readsPerson 2 none ({ frames := 3, cells := 0, slots := 0, locals := 65 } : Room) D dT [.ref (a 0)] ([wM dT a v]) ([wM dT a res]) := by
  refine CTv.of (by decide) (Nat.le_of_ble_eq_true rfl) rfl ?_
  intro p e s m args below meth c A C
  unfold f_X12_readsPerson at hf
  refine wa_aload_n C 0 1 dX12_readsPerson_0 rfl rfl ?_
  refine wa_get C 4 0 0 20 dX12_readsPerson_1 rfl iX12 q1469 rfl (Nat.le_of_ble_eq_true rfl) rfl rfl rfl ?_
  obtain ⟨x1, ex1, hf⟩ := bnd_ex hf
  refine wa_topi ex1 ?_
  refine wa_istore_n (lv' := [(0, .ref (a 0)), (1, .int x1)]) C [1, 0] 5 dX12_readsPerson_4 rfl (Nat.le_of_ble_eq_true rfl) rfl ?_
  refine wa_aload_n C 0 6 dX12_readsPerson_5 rfl rfl ?_
  refine wa_get C 9 0 0 30 dX12_readsPerson_6 rfl iX12 q1479 rfl (Nat.le_of_ble_eq_true rfl) rfl rfl rfl ?_
  refine wa_bipush (v := 50) C 11 dX12_readsPerson_9 rfl rfl ?_
  refine wa_iload_n C 1 12 dX12_readsPerson_11 rfl rfl ?_
  refine wa_iadd C 13 dX12_readsPerson_12 rfl ?_
  refine wa_aload_n C 0 14 dX12_readsPerson_13 rfl rfl ?_
  refine wa_iconst (v := 0) C 15 dX12_readsPerson_14 rfl rfl ?_
  refine wa_bipush (v := 9) C 17 dX12_readsPerson_15 rfl rfl ?_
  obtain ⟨q2, hq2, hf⟩ := bind_ex hf
  refine wa_callVAi (b1 := 0) (q1 := 0) (ci := 12) (As := [.int (0 : Int32), .int (9 : Int32)]) C 20 dX12_readsPerson_17 rfl kv_X12_221 (c_X12_number hq2) ⟨rfl, rfl⟩ ⟨Nat.le_of_ble_eq_true rfl, Nat.le_of_ble_eq_true rfl⟩ rfl rfl rfl rfl rfl ⟨Nat.zero_le _, Nat.zero_le _⟩ (Nat.le_of_ble_eq_true rfl) ?_
  obtain ⟨g3, hf⟩ := grd_ex hf
  obtain ⟨y4, ey4, hf⟩ := bnd_ex hf
  refine wa_iast (ws' := [wM dT a y4]) C 21 0 6 dX12_readsPerson_20 rfl rfl rfl (vi_in g3) (by rw [ey4]; rfl) ?_
  refine wa_aload_n C 0 22 dX12_readsPerson_21 rfl rfl ?_
  refine wa_get C 25 0 0 30 dX12_readsPerson_22 rfl iX12 q1479 rfl (Nat.le_of_ble_eq_true rfl) rfl rfl rfl ?_
  refine wa_iconst (v := 2) C 26 dX12_readsPerson_25 rfl rfl ?_
  refine wa_iload_n C 1 27 dX12_readsPerson_26 rfl rfl ?_
  refine wa_iadd C 28 dX12_readsPerson_27 rfl ?_
  refine wa_iconst (v := (-1)) C 29 dX12_readsPerson_28 rfl rfl ?_
  obtain ⟨g5, hf⟩ := grd_ex hf
  obtain ⟨y6, ey6, hf⟩ := bnd_ex hf
  refine wa_iast (ws' := [wM dT a y6]) C 30 0 6 dX12_readsPerson_29 rfl rfl rfl (vi_in g5) (by rw [ey6]; rfl) ?_
  refine wa_aload_n C 0 31 dX12_readsPerson_30 rfl rfl ?_
  obtain ⟨q7, hq7, hf⟩ := bind_ex hf
  refine wa_callVAi (b1 := 0) (q1 := 0) (ci := 12) (As := []) C 34 dX12_readsPerson_31 rfl kv_X12_155 (c_X12_isGood hq7) ⟨rfl, rfl⟩ ⟨Nat.le_of_ble_eq_true rfl, Nat.le_of_ble_eq_true rfl⟩ rfl rfl rfl rfl rfl ⟨Nat.zero_le _, Nat.zero_le _⟩ (Nat.le_of_ble_eq_true rfl) ?_
  refine wa_if_eq C 47 37 dX12_readsPerson_34 rfl rfl (fun c8 => ?_) (fun c8 => ?_)
  · replace hf := ite_t hf c8
    cases hf
    exact wa_vret C dX12_readsPerson_47 rfl
  · replace hf := ite_f hf c8
    refine wa_aload_n C 0 38 dX12_readsPerson_37 rfl rfl ?_
    refine wa_dup C 39 dX12_readsPerson_38 rfl rfl ?_
    refine wa_get C 42 0 0 20 dX12_readsPerson_39 rfl iX12 q1469 rfl (Nat.le_of_ble_eq_true rfl) rfl rfl rfl ?_
    refine wa_iconst (v := 1) C 43 dX12_readsPerson_42 rfl rfl ?_
    refine wa_iadd C 44 dX12_readsPerson_43 rfl ?_
    obtain ⟨y9, ey9, hf⟩ := bnd_ex hf
    refine wa_put (ws' := [wM dT a y9]) C 47 0 0 20 tyX12 dX12_readsPerson_44 rfl iX12 tyX12_ok nmX12 q1469 rfl (Nat.le_of_ble_eq_true rfl) rfl rfl rfl rfl rfl (Nat.le_of_ble_eq_true rfl) (by rw [ey9]; rfl) ?_
    cases hf
    exact wa_vret C dX12_readsPerson_47 rfl
theorem kv_X12_225 : KV RX12 225 yX12_isOneOf cX12_isOneOf 2 (some .boolean) 1 := KV.mk q1701 q1703 qs58 q13 q1704 ⟨by decide, by decide, by decide +kernel⟩
def f_X12_readsHouse_J47 (k4 : Int32 → Int32 → MS → Option (MS)) (l1 : Int32) (z0 : MS) : Option (MS) := (f_X12_isGood z0).bind (fun q14 => (if q14 = 0 then some (z0) else grd (vi (1 : Int32) 86) (grd (vi ((2 : Int32) + (z0.1 17)) 86) (bnd (z0.1, z0.2.1, uA z0.2.2 6 (((2 : Int32) + (z0.1 17))).toNatClampNeg (z0.2.2 6 ((1 : Int32)).toNatClampNeg)) (fun y18 => grd (vi ((14 : Int32) + (y18.1 17)) 86) (bnd (y18.1, y18.2.1, uA y18.2.2 6 (((14 : Int32) + (y18.1 17))).toNatClampNeg l1) (fun y20 => bnd (l1 + 1) (fun x21 => (f_X12_takes y20).bind (fun q22 => (if (q22.1 14) = (2 : Int32) then k4 x21 (1 : Int32) q22 else k4 x21 (0 : Int32) q22))))))))))
def f_X12_readsHouse_L4 : Nat → Int32 → Int32 → MS → Option (MS)
  | 0, _, _, _ => none
  | n + 1, l1, l2, z0 => (if l2 = 0 then grd (vi (1 : Int32) 86) (grd (vi (1 : Int32) 86) (bnd (z0.1, z0.2.1, uA z0.2.2 6 ((1 : Int32)).toNatClampNeg ((z0.2.2 6 ((1 : Int32)).toNatClampNeg) + (1 : Int32))) (fun y4 => some (y4)))) else (f_X12_isGood z0).bind (fun q5 => (if q5 = 0 then grd (vi (1 : Int32) 86) (grd (vi (1 : Int32) 86) (bnd (z0.1, z0.2.1, uA z0.2.2 6 ((1 : Int32)).toNatClampNeg ((z0.2.2 6 ((1 : Int32)).toNatClampNeg) + (1 : Int32))) (fun y9 => some (y9)))) else (f_X12_isOneOf z0 (z0.1 20)).bind (fun q10 => (if q10.1 = 0 then some (q10.2) else grd (vi ((2 : Int32) + (q10.2.1 17)) 86) ((if (q10.2.2.2 6 (((2 : Int32) + (q10.2.1 17))).toNatClampNeg) = (-1 : Int32) then f_X12_readsHouse_J47 (f_X12_readsHouse_L4 n) l1 q10.2 else (f_X12_wrong q10.2 (4 : Int32)).bind (fun q24 => f_X12_readsHouse_J47 (f_X12_readsHouse_L4 n) l1 q24))))))))
def f_X12_readsHouse (v : MS) : Option (MS) := f_X12_readsHouse_L4 FUEL (0 : Int32) (1 : Int32) v
set_option maxRecDepth 20000 in
theorem w_X12_readsHouse_J47 {p : Program} {l : Launch} {e : Env} {s : State} {m : MethodId} {args : Array Value} {below : List Frame} {meth : Method} {c : Code} {D : va_G} {A : Nat → Prop} {dT : Nat → ClassId} {a : Nat → Nat} {res : MS} (C : Cx p s m args meth c cX12_readsHouse 3 RX12 none D A dT) {k4 : Int32 → Int32 → MS → Option (MS)} (hk4 : ∀ (l1 : Int32) (l2 : Int32) (z0 : MS), k4 l1 l2 z0 = some res → WA p l e ({ frames := 2, cells := 0, slots := 0, locals := 42 } : Room) s m args below meth c (MQ below (QV D dT A ([wM dT a res])) args s 0 0 A) D A 0 0 3 4 ([wM dT a z0]) [(0, .ref (a 0)), (1, .int l1), (2, .int l2)] []) : ∀ (l1 : Int32) (z0 : MS), f_X12_readsHouse_J47 k4 l1 z0 = some res → WA p l e ({ frames := 2, cells := 0, slots := 0, locals := 42 } : Room) s m args below meth c (MQ below (QV D dT A ([wM dT a res])) args s 0 0 A) D A 0 0 3 47 ([wM dT a z0]) [(0, .ref (a 0)), (1, .int l1)] [] := by
  intro l1 z0 hf
  unfold f_X12_readsHouse_J47 at hf
  refine wa_aload_n C 0 48 dX12_readsHouse_47 rfl rfl ?_
  obtain ⟨q14, hq14, hf⟩ := bind_ex hf
  refine wa_callVAi (b1 := 0) (q1 := 0) (ci := 12) (As := []) C 51 dX12_readsHouse_48 rfl kv_X12_155 (c_X12_isGood hq14) ⟨rfl, rfl⟩ ⟨Nat.le_of_ble_eq_true rfl, Nat.le_of_ble_eq_true rfl⟩ rfl rfl rfl rfl rfl ⟨Nat.zero_le _, Nat.zero_le _⟩ (Nat.le_of_ble_eq_true rfl) ?_
  refine wa_if_ne C 55 54 dX12_readsHouse_51 rfl rfl (fun c15 => ?_) (fun c15 => ?_)
  · replace hf := ite_f hf c15
    refine wa_aload_n C 0 56 dX12_readsHouse_55 rfl rfl ?_
    refine wa_get C 59 0 0 30 dX12_readsHouse_56 rfl iX12 q1479 rfl (Nat.le_of_ble_eq_true rfl) rfl rfl rfl ?_
    refine wa_iconst (v := 2) C 60 dX12_readsHouse_59 rfl rfl ?_
    refine wa_aload_n C 0 61 dX12_readsHouse_60 rfl rfl ?_
    refine wa_get C 64 0 0 17 dX12_readsHouse_61 rfl iX12 q1466 rfl (Nat.le_of_ble_eq_true rfl) rfl rfl rfl ?_
    refine wa_iadd C 65 dX12_readsHouse_64 rfl ?_
    refine wa_aload_n C 0 66 dX12_readsHouse_65 rfl rfl ?_
    refine wa_get C 69 0 0 30 dX12_readsHouse_66 rfl iX12 q1479 rfl (Nat.le_of_ble_eq_true rfl) rfl rfl rfl ?_
    refine wa_iconst (v := 1) C 70 dX12_readsHouse_69 rfl rfl ?_
    obtain ⟨g16, hf⟩ := grd_ex hf
    refine wa_iald C 71 0 6 dX12_readsHouse_70 rfl rfl rfl (vi_in g16) ?_
    obtain ⟨g17, hf⟩ := grd_ex hf
    obtain ⟨y18, ey18, hf⟩ := bnd_ex hf
    refine wa_iast (ws' := [wM dT a y18]) C 72 0 6 dX12_readsHouse_71 rfl rfl rfl (vi_in g17) (by rw [ey18]; rfl) ?_
    refine wa_aload_n C 0 73 dX12_readsHouse_72 rfl rfl ?_
    refine wa_get C 76 0 0 30 dX12_readsHouse_73 rfl iX12 q1479 rfl (Nat.le_of_ble_eq_true rfl) rfl rfl rfl ?_
    refine wa_bipush (v := 14) C 78 dX12_readsHouse_76 rfl rfl ?_
    refine wa_aload_n C 0 79 dX12_readsHouse_78 rfl rfl ?_
    refine wa_get C 82 0 0 17 dX12_readsHouse_79 rfl iX12 q1466 rfl (Nat.le_of_ble_eq_true rfl) rfl rfl rfl ?_
    refine wa_iadd C 83 dX12_readsHouse_82 rfl ?_
    refine wa_iload_n C 1 84 dX12_readsHouse_83 rfl rfl ?_
    obtain ⟨g19, hf⟩ := grd_ex hf
    obtain ⟨y20, ey20, hf⟩ := bnd_ex hf
    refine wa_iast (ws' := [wM dT a y20]) C 85 0 6 dX12_readsHouse_84 rfl rfl rfl (vi_in g19) (by rw [ey20]; rfl) ?_
    obtain ⟨x21, ex21, hf⟩ := bnd_ex hf
    refine wa_iinc (v := x21) (lv' := [(0, .ref (a 0)), (1, .int x21)]) C 1 [1, 0] 88 dX12_readsHouse_85 rfl rfl (by rw [ex21]; rfl) (Nat.le_of_ble_eq_true rfl) rfl ?_
    refine wa_aload_n C 0 89 dX12_readsHouse_88 rfl rfl ?_
    obtain ⟨q22, hq22, hf⟩ := bind_ex hf
    refine wa_callVAv (b1 := 0) (q1 := 0) (ci := 12) (As := []) C 92 dX12_readsHouse_89 rfl kv_X12_159 (c_X12_takes hq22) ⟨rfl, rfl⟩ ⟨Nat.le_of_ble_eq_true rfl, Nat.le_of_ble_eq_true rfl⟩ rfl rfl rfl rfl rfl ⟨Nat.zero_le _, Nat.zero_le _⟩ (Nat.le_of_ble_eq_true rfl) ?_
    refine wa_aload_n C 0 93 dX12_readsHouse_92 rfl rfl ?_
    refine wa_get C 96 0 0 14 dX12_readsHouse_93 rfl iX12 q1463 rfl (Nat.le_of_ble_eq_true rfl) rfl rfl rfl ?_
    refine wa_iconst (v := 2) C 97 dX12_readsHouse_96 rfl rfl ?_
    refine wa_icmp_ne C 104 100 dX12_readsHouse_97 rfl rfl (fun c23 => ?_) (fun c23 => ?_)
    · replace hf := ite_f hf c23
      refine wa_iconst (v := 0) C 105 dX12_readsHouse_104 rfl rfl ?_
      refine wa_istore_n (lv' := [(0, .ref (a 0)), (1, .int x21), (2, .int (0 : Int32))]) C [1, 2, 0] 106 dX12_readsHouse_105 rfl (Nat.le_of_ble_eq_true rfl) rfl ?_
      refine wa_goto C 4 dX12_readsHouse_106 rfl ?_
      exact hk4 x21 (0 : Int32) q22 hf
    · replace hf := ite_t hf c23
      refine wa_iconst (v := 1) C 101 dX12_readsHouse_100 rfl rfl ?_
      refine wa_goto C 105 dX12_readsHouse_101 rfl ?_
      refine wa_istore_n (lv' := [(0, .ref (a 0)), (1, .int x21), (2, .int (1 : Int32))]) C [1, 2, 0] 106 dX12_readsHouse_105 rfl (Nat.le_of_ble_eq_true rfl) rfl ?_
      refine wa_goto C 4 dX12_readsHouse_106 rfl ?_
      exact hk4 x21 (1 : Int32) q22 hf
  · replace hf := ite_t hf c15
    cases hf
    exact wa_vret C dX12_readsHouse_54 rfl
set_option maxRecDepth 20000 in
theorem w_X12_readsHouse_L4 {p : Program} {l : Launch} {e : Env} {s : State} {m : MethodId} {args : Array Value} {below : List Frame} {meth : Method} {c : Code} {D : va_G} {A : Nat → Prop} {dT : Nat → ClassId} {a : Nat → Nat} {res : MS} (C : Cx p s m args meth c cX12_readsHouse 3 RX12 none D A dT) : ∀ (n : Nat) (l1 : Int32) (l2 : Int32) (z0 : MS), f_X12_readsHouse_L4 n l1 l2 z0 = some res → WA p l e ({ frames := 2, cells := 0, slots := 0, locals := 42 } : Room) s m args below meth c (MQ below (QV D dT A ([wM dT a res])) args s 0 0 A) D A 0 0 3 4 ([wM dT a z0]) [(0, .ref (a 0)), (1, .int l1), (2, .int l2)] [] := by
  intro n
  induction n with
  | zero => intro l1 l2 z0 hf; cases hf
  | succ n ih =>
    intro l1 l2 z0 hf
    unfold f_X12_readsHouse_L4 at hf
    refine wa_iload_n C 2 5 dX12_readsHouse_4 rfl rfl ?_
    refine wa_if_eq C 109 8 dX12_readsHouse_5 rfl rfl (fun c1 => ?_) (fun c1 => ?_)
    · replace hf := ite_t hf c1
      refine wa_aload_n C 0 110 dX12_readsHouse_109 rfl rfl ?_
      refine wa_get C 113 0 0 30 dX12_readsHouse_110 rfl iX12 q1479 rfl (Nat.le_of_ble_eq_true rfl) rfl rfl rfl ?_
      refine wa_iconst (v := 1) C 114 dX12_readsHouse_113 rfl rfl ?_
      refine wa_dup2 C 115 dX12_readsHouse_114 rfl rfl rfl ?_
      obtain ⟨g2, hf⟩ := grd_ex hf
      refine wa_iald C 116 0 6 dX12_readsHouse_115 rfl rfl rfl (vi_in g2) ?_
      refine wa_iconst (v := 1) C 117 dX12_readsHouse_116 rfl rfl ?_
      refine wa_iadd C 118 dX12_readsHouse_117 rfl ?_
      obtain ⟨g3, hf⟩ := grd_ex hf
      obtain ⟨y4, ey4, hf⟩ := bnd_ex hf
      refine wa_iast (ws' := [wM dT a y4]) C 119 0 6 dX12_readsHouse_118 rfl rfl rfl (vi_in g3) (by rw [ey4]; rfl) ?_
      cases hf
      exact wa_vret C dX12_readsHouse_119 rfl
    · replace hf := ite_f hf c1
      refine wa_aload_n C 0 9 dX12_readsHouse_8 rfl rfl ?_
      obtain ⟨q5, hq5, hf⟩ := bind_ex hf
      refine wa_callVAi (b1 := 0) (q1 := 0) (ci := 12) (As := []) C 12 dX12_readsHouse_9 rfl kv_X12_155 (c_X12_isGood hq5) ⟨rfl, rfl⟩ ⟨Nat.le_of_ble_eq_true rfl, Nat.le_of_ble_eq_true rfl⟩ rfl rfl rfl rfl rfl ⟨Nat.zero_le _, Nat.zero_le _⟩ (Nat.le_of_ble_eq_true rfl) ?_
      refine wa_if_eq C 109 15 dX12_readsHouse_12 rfl rfl (fun c6 => ?_) (fun c6 => ?_)
      · replace hf := ite_t hf c6
        refine wa_aload_n C 0 110 dX12_readsHouse_109 rfl rfl ?_
        refine wa_get C 113 0 0 30 dX12_readsHouse_110 rfl iX12 q1479 rfl (Nat.le_of_ble_eq_true rfl) rfl rfl rfl ?_
        refine wa_iconst (v := 1) C 114 dX12_readsHouse_113 rfl rfl ?_
        refine wa_dup2 C 115 dX12_readsHouse_114 rfl rfl rfl ?_
        obtain ⟨g7, hf⟩ := grd_ex hf
        refine wa_iald C 116 0 6 dX12_readsHouse_115 rfl rfl rfl (vi_in g7) ?_
        refine wa_iconst (v := 1) C 117 dX12_readsHouse_116 rfl rfl ?_
        refine wa_iadd C 118 dX12_readsHouse_117 rfl ?_
        obtain ⟨g8, hf⟩ := grd_ex hf
        obtain ⟨y9, ey9, hf⟩ := bnd_ex hf
        refine wa_iast (ws' := [wM dT a y9]) C 119 0 6 dX12_readsHouse_118 rfl rfl rfl (vi_in g8) (by rw [ey9]; rfl) ?_
        cases hf
        exact wa_vret C dX12_readsHouse_119 rfl
      · replace hf := ite_f hf c6
        refine wa_aload_n C 0 16 dX12_readsHouse_15 rfl rfl ?_
        refine wa_aload_n C 0 17 dX12_readsHouse_16 rfl rfl ?_
        refine wa_get C 20 0 0 20 dX12_readsHouse_17 rfl iX12 q1469 rfl (Nat.le_of_ble_eq_true rfl) rfl rfl rfl ?_
        obtain ⟨q10, hq10, hf⟩ := bind_ex hf
        refine wa_callVAi (b1 := 0) (q1 := 0) (ci := 12) (As := [.int (z0.1 20)]) C 23 dX12_readsHouse_20 rfl kv_X12_225 (c_X12_isOneOf hq10) ⟨rfl, rfl⟩ ⟨Nat.le_of_ble_eq_true rfl, Nat.le_of_ble_eq_true rfl⟩ rfl rfl rfl rfl rfl ⟨Nat.zero_le _, Nat.zero_le _⟩ (Nat.le_of_ble_eq_true rfl) ?_
        refine wa_if_ne C 27 26 dX12_readsHouse_23 rfl rfl (fun c11 => ?_) (fun c11 => ?_)
        · replace hf := ite_f hf c11
          refine wa_aload_n C 0 28 dX12_readsHouse_27 rfl rfl ?_
          refine wa_get C 31 0 0 30 dX12_readsHouse_28 rfl iX12 q1479 rfl (Nat.le_of_ble_eq_true rfl) rfl rfl rfl ?_
          refine wa_iconst (v := 2) C 32 dX12_readsHouse_31 rfl rfl ?_
          refine wa_aload_n C 0 33 dX12_readsHouse_32 rfl rfl ?_
          refine wa_get C 36 0 0 17 dX12_readsHouse_33 rfl iX12 q1466 rfl (Nat.le_of_ble_eq_true rfl) rfl rfl rfl ?_
          refine wa_iadd C 37 dX12_readsHouse_36 rfl ?_
          obtain ⟨g12, hf⟩ := grd_ex hf
          refine wa_iald C 38 0 6 dX12_readsHouse_37 rfl rfl rfl (vi_in g12) ?_
          refine wa_iconst (v := (-1)) C 39 dX12_readsHouse_38 rfl rfl ?_
          refine wa_icmp_eq C 47 42 dX12_readsHouse_39 rfl rfl (fun c13 => ?_) (fun c13 => ?_)
          · replace hf := ite_t hf c13
            refine wa_lv (lv' := [(0, .ref (a 0)), (1, .int l1)]) [0, 1] rfl ?_
            exact w_X12_readsHouse_J47 C ih l1 q10.2 hf
          · replace hf := ite_f hf c13
            refine wa_aload_n C 0 43 dX12_readsHouse_42 rfl rfl ?_
            refine wa_iconst (v := 4) C 44 dX12_readsHouse_43 rfl rfl ?_
            obtain ⟨q24, hq24, hf⟩ := bind_ex hf
            refine wa_callVAv (b1 := 0) (q1 := 0) (ci := 12) (As := [.int (4 : Int32)]) C 47 dX12_readsHouse_44 rfl kv_X12_162 (c_X12_wrong hq24) ⟨rfl, rfl⟩ ⟨Nat.le_of_ble_eq_true rfl, Nat.le_of_ble_eq_true rfl⟩ rfl rfl rfl rfl rfl ⟨Nat.zero_le _, Nat.zero_le _⟩ (Nat.le_of_ble_eq_true rfl) ?_
            refine wa_lv (lv' := [(0, .ref (a 0)), (1, .int l1)]) [0, 1] rfl ?_
            exact w_X12_readsHouse_J47 C ih l1 q24 hf
        · replace hf := ite_t hf c11
          cases hf
          exact wa_vret C dX12_readsHouse_26 rfl
set_option maxRecDepth 20000 in
theorem c_X12_readsHouse {l : Launch} {D : va_G} {dT : Nat → ClassId} {a : Nat → Nat} {v : MS} {res : MS} (hf : f_X12_readsHouse v = some res) : CTv l yX12_readsHouse cX12_readsHouse 3 none ({ frames := 2, cells := 0, slots := 0, locals := 42 } : Room) D dT [.ref (a 0)] ([wM dT a v]) ([wM dT a res]) := by
  refine CTv.of (by decide) (Nat.le_of_ble_eq_true rfl) rfl ?_
  intro p e s m args below meth c A C
  unfold f_X12_readsHouse at hf
  refine wa_iconst (v := 0) C 1 dX12_readsHouse_0 rfl rfl ?_
  refine wa_istore_n (lv' := [(0, .ref (a 0)), (1, .int (0 : Int32))]) C [1, 0] 2 dX12_readsHouse_1 rfl (Nat.le_of_ble_eq_true rfl) rfl ?_
  refine wa_iconst (v := 1) C 3 dX12_readsHouse_2 rfl rfl ?_
  refine wa_istore_n (lv' := [(0, .ref (a 0)), (1, .int (0 : Int32)), (2, .int (1 : Int32))]) C [1, 2, 0] 4 dX12_readsHouse_3 rfl (Nat.le_of_ble_eq_true rfl) rfl ?_
  exact w_X12_readsHouse_L4 C FUEL (0 : Int32) (1 : Int32) v hf
def f_X12_readsFriends_J110 (k50 : Int32 → MS → Option (MS)) (l1 : Int32) (l2 : Int32) (l3 : Int32) (z0 : MS) : Option (MS) := (f_X12_wrong z0 (4 : Int32)).bind (fun q26 => bnd (l3 + 1) (fun x27 => k50 x27 q26))
def f_X12_readsFriends_J84 (k50 : Int32 → MS → Option (MS)) (l1 : Int32) (l2 : Int32) (l3 : Int32) (z0 : MS) : Option (MS) := grd (vi ((2 : Int32) * l3) 24) ((if (z0.2.2 5 (((2 : Int32) * l3)).toNatClampNeg) = l2 then grd (vi (((2 : Int32) * l3) + (1 : Int32)) 24) ((if (z0.2.2 5 ((((2 : Int32) * l3) + (1 : Int32))).toNatClampNeg) = l1 then f_X12_readsFriends_J110 (k50) l1 l2 l3 z0 else bnd (l3 + 1) (fun x25 => k50 x25 z0))) else bnd (l3 + 1) (fun x22 => k50 x22 z0)))
def f_X12_readsFriends_L50 (l1 : Int32) (l2 : Int32) : Nat → Int32 → MS → Option (MS)
  | 0, _, _ => none
  | n + 1, l3, z0 => (if (z0.1 21) ≤ l3 then (f_X12_isGood z0).bind (fun q10 => (if q10 = 0 then some (z0) else grd (vi ((2 : Int32) * (z0.1 21)) 24) (bnd (z0.1, z0.2.1, uA z0.2.2 5 (((2 : Int32) * (z0.1 21))).toNatClampNeg l1) (fun y13 => grd (vi (((2 : Int32) * (y13.1 21)) + (1 : Int32)) 24) (bnd (y13.1, y13.2.1, uA y13.2.2 5 ((((2 : Int32) * (y13.1 21)) + (1 : Int32))).toNatClampNeg l2) (fun y15 => bnd (upd y15.1 21 ((y15.1 21) + (1 : Int32)), y15.2) (fun y16 => (f_X12_takes y16).bind (fun q17 => some (q17))))))))) else grd (vi ((2 : Int32) * l3) 24) ((if (z0.2.2 5 (((2 : Int32) * l3)).toNatClampNeg) = l1 then grd (vi (((2 : Int32) * l3) + (1 : Int32)) 24) ((if (z0.2.2 5 ((((2 : Int32) * l3) + (1 : Int32))).toNatClampNeg) = l2 then f_X12_readsFriends_J110 (f_X12_readsFriends_L50 l1 l2 n) l1 l2 l3 z0 else f_X12_readsFriends_J84 (f_X12_readsFriends_L50 l1 l2 n) l1 l2 l3 z0)) else f_X12_readsFriends_J84 (f_X12_readsFriends_L50 l1 l2 n) l1 l2 l3 z0)))
def f_X12_readsFriends (v : MS) : Option (MS) := (f_X12_isOneOf v (v.1 20)).bind (fun q1 => (if q1.1 = 0 then some (q1.2) else bnd (q1.2.1 17) (fun x3 => (f_X12_takes q1.2).bind (fun q4 => (f_X12_isOneOf q4 (q4.1 20)).bind (fun q5 => (if q5.1 = 0 then some (q5.2) else bnd (q5.2.1 17) (fun x7 => (if x3 = x7 then (f_X12_wrong q5.2 (4 : Int32)).bind (fun q30 => f_X12_readsFriends_L50 x3 x7 FUEL (0 : Int32) q30) else f_X12_readsFriends_L50 x3 x7 FUEL (0 : Int32) q5.2))))))))
set_option maxRecDepth 20000 in
theorem w_X12_readsFriends_J110 {p : Program} {l : Launch} {e : Env} {s : State} {m : MethodId} {args : Array Value} {below : List Frame} {meth : Method} {c : Code} {D : va_G} {A : Nat → Prop} {dT : Nat → ClassId} {a : Nat → Nat} {res : MS} {l1 : Int32} {l2 : Int32} (C : Cx p s m args meth c cX12_readsFriends 4 RX12 none D A dT) {k50 : Int32 → MS → Option (MS)} (hk50 : ∀ (l3 : Int32) (z0 : MS), k50 l3 z0 = some res → WA p l e ({ frames := 2, cells := 0, slots := 0, locals := 42 } : Room) s m args below meth c (MQ below (QV D dT A ([wM dT a res])) args s 0 0 A) D A 0 0 4 50 ([wM dT a z0]) [(0, .ref (a 0)), (1, .int l1), (2, .int l2), (3, .int l3)] []) : ∀ (l3 : Int32) (z0 : MS), f_X12_readsFriends_J110 k50 l1 l2 l3 z0 = some res → WA p l e ({ frames := 2, cells := 0, slots := 0, locals := 42 } : Room) s m args below meth c (MQ below (QV D dT A ([wM dT a res])) args s 0 0 A) D A 0 0 4 110 ([wM dT a z0]) [(0, .ref (a 0)), (1, .int l1), (2, .int l2), (3, .int l3)] [] := by
  intro l3 z0 hf
  unfold f_X12_readsFriends_J110 at hf
  refine wa_aload_n C 0 111 dX12_readsFriends_110 rfl rfl ?_
  refine wa_iconst (v := 4) C 112 dX12_readsFriends_111 rfl rfl ?_
  obtain ⟨q26, hq26, hf⟩ := bind_ex hf
  refine wa_callVAv (b1 := 0) (q1 := 0) (ci := 12) (As := [.int (4 : Int32)]) C 115 dX12_readsFriends_112 rfl kv_X12_162 (c_X12_wrong hq26) ⟨rfl, rfl⟩ ⟨Nat.le_of_ble_eq_true rfl, Nat.le_of_ble_eq_true rfl⟩ rfl rfl rfl rfl rfl ⟨Nat.zero_le _, Nat.zero_le _⟩ (Nat.le_of_ble_eq_true rfl) ?_
  obtain ⟨x27, ex27, hf⟩ := bnd_ex hf
  refine wa_iinc (v := x27) (lv' := [(0, .ref (a 0)), (1, .int l1), (2, .int l2), (3, .int x27)]) C 3 [1, 2, 3, 0] 118 dX12_readsFriends_115 rfl rfl (by rw [ex27]; rfl) (Nat.le_of_ble_eq_true rfl) rfl ?_
  refine wa_goto C 50 dX12_readsFriends_118 rfl ?_
  exact hk50 x27 q26 hf
set_option maxRecDepth 20000 in
theorem w_X12_readsFriends_J84 {p : Program} {l : Launch} {e : Env} {s : State} {m : MethodId} {args : Array Value} {below : List Frame} {meth : Method} {c : Code} {D : va_G} {A : Nat → Prop} {dT : Nat → ClassId} {a : Nat → Nat} {res : MS} {l1 : Int32} {l2 : Int32} (C : Cx p s m args meth c cX12_readsFriends 4 RX12 none D A dT) {k50 : Int32 → MS → Option (MS)} (hk50 : ∀ (l3 : Int32) (z0 : MS), k50 l3 z0 = some res → WA p l e ({ frames := 2, cells := 0, slots := 0, locals := 42 } : Room) s m args below meth c (MQ below (QV D dT A ([wM dT a res])) args s 0 0 A) D A 0 0 4 50 ([wM dT a z0]) [(0, .ref (a 0)), (1, .int l1), (2, .int l2), (3, .int l3)] []) : ∀ (l3 : Int32) (z0 : MS), f_X12_readsFriends_J84 k50 l1 l2 l3 z0 = some res → WA p l e ({ frames := 2, cells := 0, slots := 0, locals := 42 } : Room) s m args below meth c (MQ below (QV D dT A ([wM dT a res])) args s 0 0 A) D A 0 0 4 84 ([wM dT a z0]) [(0, .ref (a 0)), (1, .int l1), (2, .int l2), (3, .int l3)] [] := by
  intro l3 z0 hf
  unfold f_X12_readsFriends_J84 at hf
  refine wa_aload_n C 0 85 dX12_readsFriends_84 rfl rfl ?_
  refine wa_get C 88 0 0 29 dX12_readsFriends_85 rfl iX12 q1478 rfl (Nat.le_of_ble_eq_true rfl) rfl rfl rfl ?_
  refine wa_iconst (v := 2) C 89 dX12_readsFriends_88 rfl rfl ?_
  refine wa_iload_n C 3 90 dX12_readsFriends_89 rfl rfl ?_
  refine wa_imul C 91 dX12_readsFriends_90 rfl ?_
  obtain ⟨g20, hf⟩ := grd_ex hf
  refine wa_iald C 92 0 5 dX12_readsFriends_91 rfl rfl rfl (vi_in g20) ?_
  refine wa_iload_n C 2 93 dX12_readsFriends_92 rfl rfl ?_
  refine wa_icmp_ne C 115 96 dX12_readsFriends_93 rfl rfl (fun c21 => ?_) (fun c21 => ?_)
  · replace hf := ite_f hf c21
    obtain ⟨x22, ex22, hf⟩ := bnd_ex hf
    refine wa_iinc (v := x22) (lv' := [(0, .ref (a 0)), (1, .int l1), (2, .int l2), (3, .int x22)]) C 3 [1, 2, 3, 0] 118 dX12_readsFriends_115 rfl rfl (by rw [ex22]; rfl) (Nat.le_of_ble_eq_true rfl) rfl ?_
    refine wa_goto C 50 dX12_readsFriends_118 rfl ?_
    exact hk50 x22 z0 hf
  · replace hf := ite_t hf c21
    refine wa_aload_n C 0 97 dX12_readsFriends_96 rfl rfl ?_
    refine wa_get C 100 0 0 29 dX12_readsFriends_97 rfl iX12 q1478 rfl (Nat.le_of_ble_eq_true rfl) rfl rfl rfl ?_
    refine wa_iconst (v := 2) C 101 dX12_readsFriends_100 rfl rfl ?_
    refine wa_iload_n C 3 102 dX12_readsFriends_101 rfl rfl ?_
    refine wa_imul C 103 dX12_readsFriends_102 rfl ?_
    refine wa_iconst (v := 1) C 104 dX12_readsFriends_103 rfl rfl ?_
    refine wa_iadd C 105 dX12_readsFriends_104 rfl ?_
    obtain ⟨g23, hf⟩ := grd_ex hf
    refine wa_iald C 106 0 5 dX12_readsFriends_105 rfl rfl rfl (vi_in g23) ?_
    refine wa_iload_n C 1 107 dX12_readsFriends_106 rfl rfl ?_
    refine wa_icmp_ne C 115 110 dX12_readsFriends_107 rfl rfl (fun c24 => ?_) (fun c24 => ?_)
    · replace hf := ite_f hf c24
      obtain ⟨x25, ex25, hf⟩ := bnd_ex hf
      refine wa_iinc (v := x25) (lv' := [(0, .ref (a 0)), (1, .int l1), (2, .int l2), (3, .int x25)]) C 3 [1, 2, 3, 0] 118 dX12_readsFriends_115 rfl rfl (by rw [ex25]; rfl) (Nat.le_of_ble_eq_true rfl) rfl ?_
      refine wa_goto C 50 dX12_readsFriends_118 rfl ?_
      exact hk50 x25 z0 hf
    · replace hf := ite_t hf c24
      exact w_X12_readsFriends_J110 C hk50 l3 z0 hf
set_option maxRecDepth 20000 in
theorem w_X12_readsFriends_L50 {p : Program} {l : Launch} {e : Env} {s : State} {m : MethodId} {args : Array Value} {below : List Frame} {meth : Method} {c : Code} {D : va_G} {A : Nat → Prop} {dT : Nat → ClassId} {a : Nat → Nat} {res : MS} {l1 : Int32} {l2 : Int32} (C : Cx p s m args meth c cX12_readsFriends 4 RX12 none D A dT) : ∀ (n : Nat) (l3 : Int32) (z0 : MS), f_X12_readsFriends_L50 l1 l2 n l3 z0 = some res → WA p l e ({ frames := 2, cells := 0, slots := 0, locals := 42 } : Room) s m args below meth c (MQ below (QV D dT A ([wM dT a res])) args s 0 0 A) D A 0 0 4 50 ([wM dT a z0]) [(0, .ref (a 0)), (1, .int l1), (2, .int l2), (3, .int l3)] [] := by
  intro n
  induction n with
  | zero => intro l3 z0 hf; cases hf
  | succ n ih =>
    intro l3 z0 hf
    unfold f_X12_readsFriends_L50 at hf
    refine wa_iload_n C 3 51 dX12_readsFriends_50 rfl rfl ?_
    refine wa_aload_n C 0 52 dX12_readsFriends_51 rfl rfl ?_
    refine wa_get C 55 0 0 21 dX12_readsFriends_52 rfl iX12 q1470 rfl (Nat.le_of_ble_eq_true rfl) rfl rfl rfl ?_
    refine wa_icmp_ge C 121 58 dX12_readsFriends_55 rfl rfl (fun c9 => ?_) (fun c9 => ?_)
    · replace hf := ite_t hf c9
      refine wa_aload_n C 0 122 dX12_readsFriends_121 rfl rfl ?_
      obtain ⟨q10, hq10, hf⟩ := bind_ex hf
      refine wa_callVAi (b1 := 0) (q1 := 0) (ci := 12) (As := []) C 125 dX12_readsFriends_122 rfl kv_X12_155 (c_X12_isGood hq10) ⟨rfl, rfl⟩ ⟨Nat.le_of_ble_eq_true rfl, Nat.le_of_ble_eq_true rfl⟩ rfl rfl rfl rfl rfl ⟨Nat.zero_le _, Nat.zero_le _⟩ (Nat.le_of_ble_eq_true rfl) ?_
      refine wa_if_ne C 129 128 dX12_readsFriends_125 rfl rfl (fun c11 => ?_) (fun c11 => ?_)
      · replace hf := ite_f hf c11
        refine wa_aload_n C 0 130 dX12_readsFriends_129 rfl rfl ?_
        refine wa_get C 133 0 0 29 dX12_readsFriends_130 rfl iX12 q1478 rfl (Nat.le_of_ble_eq_true rfl) rfl rfl rfl ?_
        refine wa_iconst (v := 2) C 134 dX12_readsFriends_133 rfl rfl ?_
        refine wa_aload_n C 0 135 dX12_readsFriends_134 rfl rfl ?_
        refine wa_get C 138 0 0 21 dX12_readsFriends_135 rfl iX12 q1470 rfl (Nat.le_of_ble_eq_true rfl) rfl rfl rfl ?_
        refine wa_imul C 139 dX12_readsFriends_138 rfl ?_
        refine wa_iload_n C 1 140 dX12_readsFriends_139 rfl rfl ?_
        obtain ⟨g12, hf⟩ := grd_ex hf
        obtain ⟨y13, ey13, hf⟩ := bnd_ex hf
        refine wa_iast (ws' := [wM dT a y13]) C 141 0 5 dX12_readsFriends_140 rfl rfl rfl (vi_in g12) (by rw [ey13]; rfl) ?_
        refine wa_aload_n C 0 142 dX12_readsFriends_141 rfl rfl ?_
        refine wa_get C 145 0 0 29 dX12_readsFriends_142 rfl iX12 q1478 rfl (Nat.le_of_ble_eq_true rfl) rfl rfl rfl ?_
        refine wa_iconst (v := 2) C 146 dX12_readsFriends_145 rfl rfl ?_
        refine wa_aload_n C 0 147 dX12_readsFriends_146 rfl rfl ?_
        refine wa_get C 150 0 0 21 dX12_readsFriends_147 rfl iX12 q1470 rfl (Nat.le_of_ble_eq_true rfl) rfl rfl rfl ?_
        refine wa_imul C 151 dX12_readsFriends_150 rfl ?_
        refine wa_iconst (v := 1) C 152 dX12_readsFriends_151 rfl rfl ?_
        refine wa_iadd C 153 dX12_readsFriends_152 rfl ?_
        refine wa_iload_n C 2 154 dX12_readsFriends_153 rfl rfl ?_
        obtain ⟨g14, hf⟩ := grd_ex hf
        obtain ⟨y15, ey15, hf⟩ := bnd_ex hf
        refine wa_iast (ws' := [wM dT a y15]) C 155 0 5 dX12_readsFriends_154 rfl rfl rfl (vi_in g14) (by rw [ey15]; rfl) ?_
        refine wa_aload_n C 0 156 dX12_readsFriends_155 rfl rfl ?_
        refine wa_dup C 157 dX12_readsFriends_156 rfl rfl ?_
        refine wa_get C 160 0 0 21 dX12_readsFriends_157 rfl iX12 q1470 rfl (Nat.le_of_ble_eq_true rfl) rfl rfl rfl ?_
        refine wa_iconst (v := 1) C 161 dX12_readsFriends_160 rfl rfl ?_
        refine wa_iadd C 162 dX12_readsFriends_161 rfl ?_
        obtain ⟨y16, ey16, hf⟩ := bnd_ex hf
        refine wa_put (ws' := [wM dT a y16]) C 165 0 0 21 tyX12 dX12_readsFriends_162 rfl iX12 tyX12_ok nmX12 q1470 rfl (Nat.le_of_ble_eq_true rfl) rfl rfl rfl rfl rfl (Nat.le_of_ble_eq_true rfl) (by rw [ey16]; rfl) ?_
        refine wa_aload_n C 0 166 dX12_readsFriends_165 rfl rfl ?_
        obtain ⟨q17, hq17, hf⟩ := bind_ex hf
        refine wa_callVAv (b1 := 0) (q1 := 0) (ci := 12) (As := []) C 169 dX12_readsFriends_166 rfl kv_X12_159 (c_X12_takes hq17) ⟨rfl, rfl⟩ ⟨Nat.le_of_ble_eq_true rfl, Nat.le_of_ble_eq_true rfl⟩ rfl rfl rfl rfl rfl ⟨Nat.zero_le _, Nat.zero_le _⟩ (Nat.le_of_ble_eq_true rfl) ?_
        cases hf
        exact wa_vret C dX12_readsFriends_169 rfl
      · replace hf := ite_t hf c11
        cases hf
        exact wa_vret C dX12_readsFriends_128 rfl
    · replace hf := ite_f hf c9
      refine wa_aload_n C 0 59 dX12_readsFriends_58 rfl rfl ?_
      refine wa_get C 62 0 0 29 dX12_readsFriends_59 rfl iX12 q1478 rfl (Nat.le_of_ble_eq_true rfl) rfl rfl rfl ?_
      refine wa_iconst (v := 2) C 63 dX12_readsFriends_62 rfl rfl ?_
      refine wa_iload_n C 3 64 dX12_readsFriends_63 rfl rfl ?_
      refine wa_imul C 65 dX12_readsFriends_64 rfl ?_
      obtain ⟨g18, hf⟩ := grd_ex hf
      refine wa_iald C 66 0 5 dX12_readsFriends_65 rfl rfl rfl (vi_in g18) ?_
      refine wa_iload_n C 1 67 dX12_readsFriends_66 rfl rfl ?_
      refine wa_icmp_ne C 84 70 dX12_readsFriends_67 rfl rfl (fun c19 => ?_) (fun c19 => ?_)
      · replace hf := ite_f hf c19
        exact w_X12_readsFriends_J84 C ih l3 z0 hf
      · replace hf := ite_t hf c19
        refine wa_aload_n C 0 71 dX12_readsFriends_70 rfl rfl ?_
        refine wa_get C 74 0 0 29 dX12_readsFriends_71 rfl iX12 q1478 rfl (Nat.le_of_ble_eq_true rfl) rfl rfl rfl ?_
        refine wa_iconst (v := 2) C 75 dX12_readsFriends_74 rfl rfl ?_
        refine wa_iload_n C 3 76 dX12_readsFriends_75 rfl rfl ?_
        refine wa_imul C 77 dX12_readsFriends_76 rfl ?_
        refine wa_iconst (v := 1) C 78 dX12_readsFriends_77 rfl rfl ?_
        refine wa_iadd C 79 dX12_readsFriends_78 rfl ?_
        obtain ⟨g28, hf⟩ := grd_ex hf
        refine wa_iald C 80 0 5 dX12_readsFriends_79 rfl rfl rfl (vi_in g28) ?_
        refine wa_iload_n C 2 81 dX12_readsFriends_80 rfl rfl ?_
        refine wa_icmp_eq C 110 84 dX12_readsFriends_81 rfl rfl (fun c29 => ?_) (fun c29 => ?_)
        · replace hf := ite_t hf c29
          exact w_X12_readsFriends_J110 C ih l3 z0 hf
        · replace hf := ite_f hf c29
          exact w_X12_readsFriends_J84 C ih l3 z0 hf
set_option maxRecDepth 20000 in
theorem c_X12_readsFriends {l : Launch} {D : va_G} {dT : Nat → ClassId} {a : Nat → Nat} {v : MS} {res : MS} (hf : f_X12_readsFriends v = some res) : CTv l yX12_readsFriends cX12_readsFriends 4 none ({ frames := 2, cells := 0, slots := 0, locals := 42 } : Room) D dT [.ref (a 0)] ([wM dT a v]) ([wM dT a res]) := by
  refine CTv.of (by decide) (Nat.le_of_ble_eq_true rfl) rfl ?_
  intro p e s m args below meth c A C
  unfold f_X12_readsFriends at hf
  refine wa_aload_n C 0 1 dX12_readsFriends_0 rfl rfl ?_
  refine wa_aload_n C 0 2 dX12_readsFriends_1 rfl rfl ?_
  refine wa_get C 5 0 0 20 dX12_readsFriends_2 rfl iX12 q1469 rfl (Nat.le_of_ble_eq_true rfl) rfl rfl rfl ?_
  obtain ⟨q1, hq1, hf⟩ := bind_ex hf
  refine wa_callVAi (b1 := 0) (q1 := 0) (ci := 12) (As := [.int (v.1 20)]) C 8 dX12_readsFriends_5 rfl kv_X12_225 (c_X12_isOneOf hq1) ⟨rfl, rfl⟩ ⟨Nat.le_of_ble_eq_true rfl, Nat.le_of_ble_eq_true rfl⟩ rfl rfl rfl rfl rfl ⟨Nat.zero_le _, Nat.zero_le _⟩ (Nat.le_of_ble_eq_true rfl) ?_
  refine wa_if_ne C 12 11 dX12_readsFriends_8 rfl rfl (fun c2 => ?_) (fun c2 => ?_)
  · replace hf := ite_f hf c2
    refine wa_aload_n C 0 13 dX12_readsFriends_12 rfl rfl ?_
    refine wa_get C 16 0 0 17 dX12_readsFriends_13 rfl iX12 q1466 rfl (Nat.le_of_ble_eq_true rfl) rfl rfl rfl ?_
    obtain ⟨x3, ex3, hf⟩ := bnd_ex hf
    refine wa_topi ex3 ?_
    refine wa_istore_n (lv' := [(0, .ref (a 0)), (1, .int x3)]) C [1, 0] 17 dX12_readsFriends_16 rfl (Nat.le_of_ble_eq_true rfl) rfl ?_
    refine wa_aload_n C 0 18 dX12_readsFriends_17 rfl rfl ?_
    obtain ⟨q4, hq4, hf⟩ := bind_ex hf
    refine wa_callVAv (b1 := 0) (q1 := 0) (ci := 12) (As := []) C 21 dX12_readsFriends_18 rfl kv_X12_159 (c_X12_takes hq4) ⟨rfl, rfl⟩ ⟨Nat.le_of_ble_eq_true rfl, Nat.le_of_ble_eq_true rfl⟩ rfl rfl rfl rfl rfl ⟨Nat.zero_le _, Nat.zero_le _⟩ (Nat.le_of_ble_eq_true rfl) ?_
    refine wa_aload_n C 0 22 dX12_readsFriends_21 rfl rfl ?_
    refine wa_aload_n C 0 23 dX12_readsFriends_22 rfl rfl ?_
    refine wa_get C 26 0 0 20 dX12_readsFriends_23 rfl iX12 q1469 rfl (Nat.le_of_ble_eq_true rfl) rfl rfl rfl ?_
    obtain ⟨q5, hq5, hf⟩ := bind_ex hf
    refine wa_callVAi (b1 := 0) (q1 := 0) (ci := 12) (As := [.int (q4.1 20)]) C 29 dX12_readsFriends_26 rfl kv_X12_225 (c_X12_isOneOf hq5) ⟨rfl, rfl⟩ ⟨Nat.le_of_ble_eq_true rfl, Nat.le_of_ble_eq_true rfl⟩ rfl rfl rfl rfl rfl ⟨Nat.zero_le _, Nat.zero_le _⟩ (Nat.le_of_ble_eq_true rfl) ?_
    refine wa_if_ne C 33 32 dX12_readsFriends_29 rfl rfl (fun c6 => ?_) (fun c6 => ?_)
    · replace hf := ite_f hf c6
      refine wa_aload_n C 0 34 dX12_readsFriends_33 rfl rfl ?_
      refine wa_get C 37 0 0 17 dX12_readsFriends_34 rfl iX12 q1466 rfl (Nat.le_of_ble_eq_true rfl) rfl rfl rfl ?_
      obtain ⟨x7, ex7, hf⟩ := bnd_ex hf
      refine wa_topi ex7 ?_
      refine wa_istore_n (lv' := [(0, .ref (a 0)), (1, .int x3), (2, .int x7)]) C [1, 2, 0] 38 dX12_readsFriends_37 rfl (Nat.le_of_ble_eq_true rfl) rfl ?_
      refine wa_iload_n C 1 39 dX12_readsFriends_38 rfl rfl ?_
      refine wa_iload_n C 2 40 dX12_readsFriends_39 rfl rfl ?_
      refine wa_icmp_ne C 48 43 dX12_readsFriends_40 rfl rfl (fun c8 => ?_) (fun c8 => ?_)
      · replace hf := ite_f hf c8
        refine wa_iconst (v := 0) C 49 dX12_readsFriends_48 rfl rfl ?_
        refine wa_istore_n (lv' := [(0, .ref (a 0)), (1, .int x3), (2, .int x7), (3, .int (0 : Int32))]) C [1, 2, 3, 0] 50 dX12_readsFriends_49 rfl (Nat.le_of_ble_eq_true rfl) rfl ?_
        exact w_X12_readsFriends_L50 C FUEL (0 : Int32) q5.2 hf
      · replace hf := ite_t hf c8
        refine wa_aload_n C 0 44 dX12_readsFriends_43 rfl rfl ?_
        refine wa_iconst (v := 4) C 45 dX12_readsFriends_44 rfl rfl ?_
        obtain ⟨q30, hq30, hf⟩ := bind_ex hf
        refine wa_callVAv (b1 := 0) (q1 := 0) (ci := 12) (As := [.int (4 : Int32)]) C 48 dX12_readsFriends_45 rfl kv_X12_162 (c_X12_wrong hq30) ⟨rfl, rfl⟩ ⟨Nat.le_of_ble_eq_true rfl, Nat.le_of_ble_eq_true rfl⟩ rfl rfl rfl rfl rfl ⟨Nat.zero_le _, Nat.zero_le _⟩ (Nat.le_of_ble_eq_true rfl) ?_
        refine wa_iconst (v := 0) C 49 dX12_readsFriends_48 rfl rfl ?_
        refine wa_istore_n (lv' := [(0, .ref (a 0)), (1, .int x3), (2, .int x7), (3, .int (0 : Int32))]) C [1, 2, 3, 0] 50 dX12_readsFriends_49 rfl (Nat.le_of_ble_eq_true rfl) rfl ?_
        exact w_X12_readsFriends_L50 C FUEL (0 : Int32) q30 hf
    · replace hf := ite_t hf c6
      cases hf
      exact wa_vret C dX12_readsFriends_32 rfl
  · replace hf := ite_t hf c2
    cases hf
    exact wa_vret C dX12_readsFriends_11 rfl
theorem kv_X12_231 : KV RX12 231 yX12_begins cX12_begins 3 (some .boolean) 2 := KV.mk q1681 q1683 qs53 q13 q1684 ⟨by decide, by decide, by decide +kernel⟩
theorem kv_X12_235 : KV RX12 235 yX12_readsPerson cX12_readsPerson 2 none 0 := KV.mk q1689 q1691 qs55 q13 q1692 ⟨by decide, by decide, by decide +kernel⟩
theorem kv_X12_238 : KV RX12 238 yX12_readsHouse cX12_readsHouse 3 none 0 := KV.mk q1697 q1699 qs57 q13 q1700 ⟨by decide, by decide, by decide +kernel⟩
theorem kv_X12_241 : KV RX12 241 yX12_readsFriends cX12_readsFriends 4 none 0 := KV.mk q1705 q1707 qs59 q13 q1708 ⟨by decide, by decide, by decide +kernel⟩
theorem kv_X12_247 : KV RX12 247 yX12_expression cX12_expression 5 none 2 := KV.mk q1709 q1711 qs60 q13 q1712 ⟨by decide, by decide, by decide +kernel⟩
theorem kv_X12_254 : KV RX12 254 yX12_need cX12_need 2 none 1 := KV.mk q1755 q1757 qs70 q13 q1758 ⟨by decide, by decide, by decide +kernel⟩
def f_X12_line_J191 (z0 : MS) : Option (MS) := (f_X12_isSign z0 (59 : Int32)).bind (fun q8 => (f_X12_need z0 q8).bind (fun q9 => some (q9)))
def f_X12_line_J162 (t0 : Int32) (t1 : Int32) (z0 : MS) : Option (MS) := (f_X12_begins z0 t1 t0).bind (fun q11 => (if q11.1 = 0 then f_X12_line_J191 q11.2 else bnd (upd q11.2.1 23 (q11.2.1 24), q11.2.2) (fun y13 => (f_X12_expression y13 (4 : Int32) (8 : Int32)).bind (fun q14 => f_X12_line_J191 q14))))
def f_X12_line_J118 (t0 : Int32) (t1 : Int32) (z0 : MS) : Option (MS) := (f_X12_begins z0 t1 t0).bind (fun q16 => (if q16.1 = 0 then f_X12_line_J191 q16.2 else bnd (upd q16.2.1 22 (q16.2.1 24), q16.2.2) (fun y18 => (f_X12_expression y18 (0 : Int32) (5 : Int32)).bind (fun q19 => f_X12_line_J191 q19))))
def f_X12_line_J83 (t0 : Int32) (z0 : MS) : Option (MS) := (f_X12_begins z0 t0 (0 : Int32)).bind (fun q21 => (if q21.1 = 0 then f_X12_line_J191 q21.2 else (f_X12_readsFriends q21.2).bind (fun q23 => f_X12_line_J191 q23)))
def f_X12_line_J26 (t0 : Int32) (z0 : MS) : Option (MS) := (f_X12_begins z0 t0 (0 : Int32)).bind (fun q28 => (if q28.1 = 0 then f_X12_line_J191 q28.2 else (f_X12_readsPerson q28.2).bind (fun q30 => f_X12_line_J191 q30)))
def f_X12_line (v : MS) : Option (MS) := (f_X12_knownWord v).bind (fun q1 => (if q1 = (9 : Int32) then (if (v.1 20) = (12 : Int32) then f_X12_line_J26 (1 : Int32) v else f_X12_line_J26 (0 : Int32) v) else (if q1 = (6 : Int32) then (f_X12_begins v (0 : Int32) (0 : Int32)).bind (fun q24 => (if q24.1 = 0 then f_X12_line_J191 q24.2 else (f_X12_readsHouse q24.2).bind (fun q26 => f_X12_line_J191 q26))) else (if q1 = (10 : Int32) then (if (v.1 21) = (12 : Int32) then f_X12_line_J83 (1 : Int32) v else f_X12_line_J83 (0 : Int32) v) else (if q1 = (11 : Int32) then (if (v.1 22) = (-1 : Int32) then f_X12_line_J118 (0 : Int32) (0 : Int32) v else f_X12_line_J118 (1 : Int32) (0 : Int32) v) else (if q1 = (12 : Int32) then (if (v.1 23) = (-1 : Int32) then f_X12_line_J162 (0 : Int32) (0 : Int32) v else f_X12_line_J162 (1 : Int32) (0 : Int32) v) else (f_X12_wrong v (1 : Int32)).bind (fun q7 => f_X12_line_J191 q7)))))))
set_option maxRecDepth 20000 in
theorem w_X12_line_J191 {p : Program} {l : Launch} {e : Env} {s : State} {m : MethodId} {args : Array Value} {below : List Frame} {meth : Method} {c : Code} {D : va_G} {A : Nat → Prop} {dT : Nat → ClassId} {a : Nat → Nat} {res : MS} (C : Cx p s m args meth c cX12_line 2 RX12 none D A dT) : ∀ (z0 : MS), f_X12_line_J191 z0 = some res → WA p l e ({ frames := 6, cells := 0, slots := 0, locals := 138 } : Room) s m args below meth c (MQ below (QV D dT A ([wM dT a res])) args s 0 0 A) D A 0 0 2 191 ([wM dT a z0]) [(0, .ref (a 0))] [] := by
  intro z0 hf
  unfold f_X12_line_J191 at hf
  refine wa_aload_n C 0 192 dX12_line_191 rfl rfl ?_
  refine wa_aload_n C 0 193 dX12_line_192 rfl rfl ?_
  refine wa_bipush (v := 59) C 195 dX12_line_193 rfl rfl ?_
  obtain ⟨q8, hq8, hf⟩ := bind_ex hf
  refine wa_callVAi (b1 := 0) (q1 := 0) (ci := 12) (As := [.int (59 : Int32)]) C 198 dX12_line_195 rfl kv_X12_193 (c_X12_isSign hq8) ⟨rfl, rfl⟩ ⟨Nat.le_of_ble_eq_true rfl, Nat.le_of_ble_eq_true rfl⟩ rfl rfl rfl rfl rfl ⟨Nat.zero_le _, Nat.zero_le _⟩ (Nat.le_of_ble_eq_true rfl) ?_
  obtain ⟨q9, hq9, hf⟩ := bind_ex hf
  refine wa_callVAv (b1 := 0) (q1 := 0) (ci := 12) (As := [.int q8]) C 201 dX12_line_198 rfl kv_X12_254 (c_X12_need hq9) ⟨rfl, rfl⟩ ⟨Nat.le_of_ble_eq_true rfl, Nat.le_of_ble_eq_true rfl⟩ rfl rfl rfl rfl rfl ⟨Nat.zero_le _, Nat.zero_le _⟩ (Nat.le_of_ble_eq_true rfl) ?_
  cases hf
  exact wa_vret C dX12_line_201 rfl
set_option maxRecDepth 20000 in
theorem w_X12_line_J162 {p : Program} {l : Launch} {e : Env} {s : State} {m : MethodId} {args : Array Value} {below : List Frame} {meth : Method} {c : Code} {D : va_G} {A : Nat → Prop} {dT : Nat → ClassId} {a : Nat → Nat} {res : MS} (C : Cx p s m args meth c cX12_line 2 RX12 none D A dT) : ∀ (t0 : Int32) (t1 : Int32) (z0 : MS), f_X12_line_J162 t0 t1 z0 = some res → WA p l e ({ frames := 6, cells := 0, slots := 0, locals := 138 } : Room) s m args below meth c (MQ below (QV D dT A ([wM dT a res])) args s 0 0 A) D A 0 0 2 162 ([wM dT a z0]) [(0, .ref (a 0))] [.int t0, .int t1, .ref (a 0)] := by
  intro t0 t1 z0 hf
  unfold f_X12_line_J162 at hf
  obtain ⟨q11, hq11, hf⟩ := bind_ex hf
  refine wa_callVAi (b1 := 0) (q1 := 0) (ci := 12) (As := [.int t1, .int t0]) C 165 dX12_line_162 rfl kv_X12_231 (c_X12_begins hq11) ⟨rfl, rfl⟩ ⟨Nat.le_of_ble_eq_true rfl, Nat.le_of_ble_eq_true rfl⟩ rfl rfl rfl rfl rfl ⟨Nat.zero_le _, Nat.zero_le _⟩ (Nat.le_of_ble_eq_true rfl) ?_
  refine wa_if_eq C 191 168 dX12_line_165 rfl rfl (fun c12 => ?_) (fun c12 => ?_)
  · replace hf := ite_t hf c12
    exact w_X12_line_J191 C q11.2 hf
  · replace hf := ite_f hf c12
    refine wa_aload_n C 0 169 dX12_line_168 rfl rfl ?_
    refine wa_aload_n C 0 170 dX12_line_169 rfl rfl ?_
    refine wa_get C 173 0 0 24 dX12_line_170 rfl iX12 q1473 rfl (Nat.le_of_ble_eq_true rfl) rfl rfl rfl ?_
    obtain ⟨y13, ey13, hf⟩ := bnd_ex hf
    refine wa_put (ws' := [wM dT a y13]) C 176 0 0 23 tyX12 dX12_line_173 rfl iX12 tyX12_ok nmX12 q1472 rfl (Nat.le_of_ble_eq_true rfl) rfl rfl rfl rfl rfl (Nat.le_of_ble_eq_true rfl) (by rw [ey13]; rfl) ?_
    refine wa_aload_n C 0 177 dX12_line_176 rfl rfl ?_
    refine wa_iconst (v := 4) C 178 dX12_line_177 rfl rfl ?_
    refine wa_bipush (v := 8) C 180 dX12_line_178 rfl rfl ?_
    obtain ⟨q14, hq14, hf⟩ := bind_ex hf
    refine wa_callVAv (b1 := 0) (q1 := 0) (ci := 12) (As := [.int (4 : Int32), .int (8 : Int32)]) C 183 dX12_line_180 rfl kv_X12_247 (c_X12_expression hq14) ⟨rfl, rfl⟩ ⟨Nat.le_of_ble_eq_true rfl, Nat.le_of_ble_eq_true rfl⟩ rfl rfl rfl rfl rfl ⟨Nat.zero_le _, Nat.zero_le _⟩ (Nat.le_of_ble_eq_true rfl) ?_
    refine wa_goto C 191 dX12_line_183 rfl ?_
    exact w_X12_line_J191 C q14 hf
set_option maxRecDepth 20000 in
theorem w_X12_line_J118 {p : Program} {l : Launch} {e : Env} {s : State} {m : MethodId} {args : Array Value} {below : List Frame} {meth : Method} {c : Code} {D : va_G} {A : Nat → Prop} {dT : Nat → ClassId} {a : Nat → Nat} {res : MS} (C : Cx p s m args meth c cX12_line 2 RX12 none D A dT) : ∀ (t0 : Int32) (t1 : Int32) (z0 : MS), f_X12_line_J118 t0 t1 z0 = some res → WA p l e ({ frames := 6, cells := 0, slots := 0, locals := 138 } : Room) s m args below meth c (MQ below (QV D dT A ([wM dT a res])) args s 0 0 A) D A 0 0 2 118 ([wM dT a z0]) [(0, .ref (a 0))] [.int t0, .int t1, .ref (a 0)] := by
  intro t0 t1 z0 hf
  unfold f_X12_line_J118 at hf
  obtain ⟨q16, hq16, hf⟩ := bind_ex hf
  refine wa_callVAi (b1 := 0) (q1 := 0) (ci := 12) (As := [.int t1, .int t0]) C 121 dX12_line_118 rfl kv_X12_231 (c_X12_begins hq16) ⟨rfl, rfl⟩ ⟨Nat.le_of_ble_eq_true rfl, Nat.le_of_ble_eq_true rfl⟩ rfl rfl rfl rfl rfl ⟨Nat.zero_le _, Nat.zero_le _⟩ (Nat.le_of_ble_eq_true rfl) ?_
  refine wa_if_eq C 191 124 dX12_line_121 rfl rfl (fun c17 => ?_) (fun c17 => ?_)
  · replace hf := ite_t hf c17
    exact w_X12_line_J191 C q16.2 hf
  · replace hf := ite_f hf c17
    refine wa_aload_n C 0 125 dX12_line_124 rfl rfl ?_
    refine wa_aload_n C 0 126 dX12_line_125 rfl rfl ?_
    refine wa_get C 129 0 0 24 dX12_line_126 rfl iX12 q1473 rfl (Nat.le_of_ble_eq_true rfl) rfl rfl rfl ?_
    obtain ⟨y18, ey18, hf⟩ := bnd_ex hf
    refine wa_put (ws' := [wM dT a y18]) C 132 0 0 22 tyX12 dX12_line_129 rfl iX12 tyX12_ok nmX12 q1471 rfl (Nat.le_of_ble_eq_true rfl) rfl rfl rfl rfl rfl (Nat.le_of_ble_eq_true rfl) (by rw [ey18]; rfl) ?_
    refine wa_aload_n C 0 133 dX12_line_132 rfl rfl ?_
    refine wa_iconst (v := 0) C 134 dX12_line_133 rfl rfl ?_
    refine wa_iconst (v := 5) C 135 dX12_line_134 rfl rfl ?_
    obtain ⟨q19, hq19, hf⟩ := bind_ex hf
    refine wa_callVAv (b1 := 0) (q1 := 0) (ci := 12) (As := [.int (0 : Int32), .int (5 : Int32)]) C 138 dX12_line_135 rfl kv_X12_247 (c_X12_expression hq19) ⟨rfl, rfl⟩ ⟨Nat.le_of_ble_eq_true rfl, Nat.le_of_ble_eq_true rfl⟩ rfl rfl rfl rfl rfl ⟨Nat.zero_le _, Nat.zero_le _⟩ (Nat.le_of_ble_eq_true rfl) ?_
    refine wa_goto C 191 dX12_line_138 rfl ?_
    exact w_X12_line_J191 C q19 hf
set_option maxRecDepth 20000 in
theorem w_X12_line_J83 {p : Program} {l : Launch} {e : Env} {s : State} {m : MethodId} {args : Array Value} {below : List Frame} {meth : Method} {c : Code} {D : va_G} {A : Nat → Prop} {dT : Nat → ClassId} {a : Nat → Nat} {res : MS} (C : Cx p s m args meth c cX12_line 2 RX12 none D A dT) : ∀ (t0 : Int32) (z0 : MS), f_X12_line_J83 t0 z0 = some res → WA p l e ({ frames := 6, cells := 0, slots := 0, locals := 138 } : Room) s m args below meth c (MQ below (QV D dT A ([wM dT a res])) args s 0 0 A) D A 0 0 2 83 ([wM dT a z0]) [(0, .ref (a 0))] [.int t0, .ref (a 0)] := by
  intro t0 z0 hf
  unfold f_X12_line_J83 at hf
  refine wa_iconst (v := 0) C 84 dX12_line_83 rfl rfl ?_
  obtain ⟨q21, hq21, hf⟩ := bind_ex hf
  refine wa_callVAi (b1 := 0) (q1 := 0) (ci := 12) (As := [.int t0, .int (0 : Int32)]) C 87 dX12_line_84 rfl kv_X12_231 (c_X12_begins hq21) ⟨rfl, rfl⟩ ⟨Nat.le_of_ble_eq_true rfl, Nat.le_of_ble_eq_true rfl⟩ rfl rfl rfl rfl rfl ⟨Nat.zero_le _, Nat.zero_le _⟩ (Nat.le_of_ble_eq_true rfl) ?_
  refine wa_if_eq C 191 90 dX12_line_87 rfl rfl (fun c22 => ?_) (fun c22 => ?_)
  · replace hf := ite_t hf c22
    exact w_X12_line_J191 C q21.2 hf
  · replace hf := ite_f hf c22
    refine wa_aload_n C 0 91 dX12_line_90 rfl rfl ?_
    obtain ⟨q23, hq23, hf⟩ := bind_ex hf
    refine wa_callVAv (b1 := 0) (q1 := 0) (ci := 12) (As := []) C 94 dX12_line_91 rfl kv_X12_241 (c_X12_readsFriends hq23) ⟨rfl, rfl⟩ ⟨Nat.le_of_ble_eq_true rfl, Nat.le_of_ble_eq_true rfl⟩ rfl rfl rfl rfl rfl ⟨Nat.zero_le _, Nat.zero_le _⟩ (Nat.le_of_ble_eq_true rfl) ?_
    refine wa_goto C 191 dX12_line_94 rfl ?_
    exact w_X12_line_J191 C q23 hf
set_option maxRecDepth 20000 in
theorem w_X12_line_J26 {p : Program} {l : Launch} {e : Env} {s : State} {m : MethodId} {args : Array Value} {below : List Frame} {meth : Method} {c : Code} {D : va_G} {A : Nat → Prop} {dT : Nat → ClassId} {a : Nat → Nat} {res : MS} (C : Cx p s m args meth c cX12_line 2 RX12 none D A dT) : ∀ (t0 : Int32) (z0 : MS), f_X12_line_J26 t0 z0 = some res → WA p l e ({ frames := 6, cells := 0, slots := 0, locals := 138 } : Room) s m args below meth c (MQ below (QV D dT A ([wM dT a res])) args s 0 0 A) D A 0 0 2 26 ([wM dT a z0]) [(0, .ref (a 0))] [.int t0, .ref (a 0)] := by
  intro t0 z0 hf
  unfold f_X12_line_J26 at hf
  refine wa_iconst (v := 0) C 27 dX12_line_26 rfl rfl ?_
  obtain ⟨q28, hq28, hf⟩ := bind_ex hf
  refine wa_callVAi (b1 := 0) (q1 := 0) (ci := 12) (As := [.int t0, .int (0 : Int32)]) C 30 dX12_line_27 rfl kv_X12_231 (c_X12_begins hq28) ⟨rfl, rfl⟩ ⟨Nat.le_of_ble_eq_true rfl, Nat.le_of_ble_eq_true rfl⟩ rfl rfl rfl rfl rfl ⟨Nat.zero_le _, Nat.zero_le _⟩ (Nat.le_of_ble_eq_true rfl) ?_
  refine wa_if_eq C 191 33 dX12_line_30 rfl rfl (fun c29 => ?_) (fun c29 => ?_)
  · replace hf := ite_t hf c29
    exact w_X12_line_J191 C q28.2 hf
  · replace hf := ite_f hf c29
    refine wa_aload_n C 0 34 dX12_line_33 rfl rfl ?_
    obtain ⟨q30, hq30, hf⟩ := bind_ex hf
    refine wa_callVAv (b1 := 0) (q1 := 0) (ci := 12) (As := []) C 37 dX12_line_34 rfl kv_X12_235 (c_X12_readsPerson hq30) ⟨rfl, rfl⟩ ⟨Nat.le_of_ble_eq_true rfl, Nat.le_of_ble_eq_true rfl⟩ rfl rfl rfl rfl rfl ⟨Nat.zero_le _, Nat.zero_le _⟩ (Nat.le_of_ble_eq_true rfl) ?_
    refine wa_goto C 191 dX12_line_37 rfl ?_
    exact w_X12_line_J191 C q30 hf
set_option maxRecDepth 20000 in
theorem c_X12_line {l : Launch} {D : va_G} {dT : Nat → ClassId} {a : Nat → Nat} {v : MS} {res : MS} (hf : f_X12_line v = some res) : CTv l yX12_line cX12_line 2 none ({ frames := 6, cells := 0, slots := 0, locals := 138 } : Room) D dT [.ref (a 0)] ([wM dT a v]) ([wM dT a res]) := by
  refine CTv.of (by decide) (Nat.le_of_ble_eq_true rfl) rfl ?_
  intro p e s m args below meth c A C
  unfold f_X12_line at hf
  refine wa_aload_n C 0 1 dX12_line_0 rfl rfl ?_
  obtain ⟨q1, hq1, hf⟩ := bind_ex hf
  refine wa_callVAi (b1 := 0) (q1 := 0) (ci := 12) (As := []) C 4 dX12_line_1 rfl kv_X12_180 (c_X12_knownWord hq1) ⟨rfl, rfl⟩ ⟨Nat.le_of_ble_eq_true rfl, Nat.le_of_ble_eq_true rfl⟩ rfl rfl rfl rfl rfl ⟨Nat.zero_le _, Nat.zero_le _⟩ (Nat.le_of_ble_eq_true rfl) ?_
  refine wa_istore_n (lv' := [(0, .ref (a 0)), (1, .int q1)]) C [1, 0] 5 dX12_line_4 rfl (Nat.le_of_ble_eq_true rfl) rfl ?_
  refine wa_iload_n C 1 6 dX12_line_5 rfl rfl ?_
  refine wa_bipush (v := 9) C 8 dX12_line_6 rfl rfl ?_
  refine wa_icmp_ne C 40 11 dX12_line_8 rfl rfl (fun c2 => ?_) (fun c2 => ?_)
  · replace hf := ite_f hf c2
    refine wa_iload_n C 1 41 dX12_line_40 rfl rfl ?_
    refine wa_bipush (v := 6) C 43 dX12_line_41 rfl rfl ?_
    refine wa_icmp_ne C 62 46 dX12_line_43 rfl rfl (fun c3 => ?_) (fun c3 => ?_)
    · replace hf := ite_f hf c3
      refine wa_iload_n C 1 63 dX12_line_62 rfl rfl ?_
      refine wa_bipush (v := 10) C 65 dX12_line_63 rfl rfl ?_
      refine wa_icmp_ne C 97 68 dX12_line_65 rfl rfl (fun c4 => ?_) (fun c4 => ?_)
      · replace hf := ite_f hf c4
        refine wa_iload_n C 1 98 dX12_line_97 rfl rfl ?_
        refine wa_bipush (v := 11) C 100 dX12_line_98 rfl rfl ?_
        refine wa_icmp_ne C 141 103 dX12_line_100 rfl rfl (fun c5 => ?_) (fun c5 => ?_)
        · replace hf := ite_f hf c5
          refine wa_iload_n C 1 142 dX12_line_141 rfl rfl ?_
          refine wa_bipush (v := 12) C 144 dX12_line_142 rfl rfl ?_
          refine wa_icmp_ne C 186 147 dX12_line_144 rfl rfl (fun c6 => ?_) (fun c6 => ?_)
          · replace hf := ite_f hf c6
            refine wa_aload_n C 0 187 dX12_line_186 rfl rfl ?_
            refine wa_iconst (v := 1) C 188 dX12_line_187 rfl rfl ?_
            obtain ⟨q7, hq7, hf⟩ := bind_ex hf
            refine wa_callVAv (b1 := 0) (q1 := 0) (ci := 12) (As := [.int (1 : Int32)]) C 191 dX12_line_188 rfl kv_X12_162 (c_X12_wrong hq7) ⟨rfl, rfl⟩ ⟨Nat.le_of_ble_eq_true rfl, Nat.le_of_ble_eq_true rfl⟩ rfl rfl rfl rfl rfl ⟨Nat.zero_le _, Nat.zero_le _⟩ (Nat.le_of_ble_eq_true rfl) ?_
            refine wa_lv (lv' := [(0, .ref (a 0))]) [0] rfl ?_
            exact w_X12_line_J191 C q7 hf
          · replace hf := ite_t hf c6
            refine wa_aload_n C 0 148 dX12_line_147 rfl rfl ?_
            refine wa_iconst (v := 0) C 149 dX12_line_148 rfl rfl ?_
            refine wa_aload_n C 0 150 dX12_line_149 rfl rfl ?_
            refine wa_get C 153 0 0 23 dX12_line_150 rfl iX12 q1472 rfl (Nat.le_of_ble_eq_true rfl) rfl rfl rfl ?_
            refine wa_iconst (v := (-1)) C 154 dX12_line_153 rfl rfl ?_
            refine wa_icmp_eq C 161 157 dX12_line_154 rfl rfl (fun c10 => ?_) (fun c10 => ?_)
            · replace hf := ite_t hf c10
              refine wa_iconst (v := 0) C 162 dX12_line_161 rfl rfl ?_
              refine wa_lv (lv' := [(0, .ref (a 0))]) [0] rfl ?_
              exact w_X12_line_J162 C (0 : Int32) (0 : Int32) v hf
            · replace hf := ite_f hf c10
              refine wa_iconst (v := 1) C 158 dX12_line_157 rfl rfl ?_
              refine wa_goto C 162 dX12_line_158 rfl ?_
              refine wa_lv (lv' := [(0, .ref (a 0))]) [0] rfl ?_
              exact w_X12_line_J162 C (1 : Int32) (0 : Int32) v hf
        · replace hf := ite_t hf c5
          refine wa_aload_n C 0 104 dX12_line_103 rfl rfl ?_
          refine wa_iconst (v := 0) C 105 dX12_line_104 rfl rfl ?_
          refine wa_aload_n C 0 106 dX12_line_105 rfl rfl ?_
          refine wa_get C 109 0 0 22 dX12_line_106 rfl iX12 q1471 rfl (Nat.le_of_ble_eq_true rfl) rfl rfl rfl ?_
          refine wa_iconst (v := (-1)) C 110 dX12_line_109 rfl rfl ?_
          refine wa_icmp_eq C 117 113 dX12_line_110 rfl rfl (fun c15 => ?_) (fun c15 => ?_)
          · replace hf := ite_t hf c15
            refine wa_iconst (v := 0) C 118 dX12_line_117 rfl rfl ?_
            refine wa_lv (lv' := [(0, .ref (a 0))]) [0] rfl ?_
            exact w_X12_line_J118 C (0 : Int32) (0 : Int32) v hf
          · replace hf := ite_f hf c15
            refine wa_iconst (v := 1) C 114 dX12_line_113 rfl rfl ?_
            refine wa_goto C 118 dX12_line_114 rfl ?_
            refine wa_lv (lv' := [(0, .ref (a 0))]) [0] rfl ?_
            exact w_X12_line_J118 C (1 : Int32) (0 : Int32) v hf
      · replace hf := ite_t hf c4
        refine wa_aload_n C 0 69 dX12_line_68 rfl rfl ?_
        refine wa_aload_n C 0 70 dX12_line_69 rfl rfl ?_
        refine wa_get C 73 0 0 21 dX12_line_70 rfl iX12 q1470 rfl (Nat.le_of_ble_eq_true rfl) rfl rfl rfl ?_
        refine wa_bipush (v := 12) C 75 dX12_line_73 rfl rfl ?_
        refine wa_icmp_ne C 82 78 dX12_line_75 rfl rfl (fun c20 => ?_) (fun c20 => ?_)
        · replace hf := ite_f hf c20
          refine wa_iconst (v := 0) C 83 dX12_line_82 rfl rfl ?_
          refine wa_lv (lv' := [(0, .ref (a 0))]) [0] rfl ?_
          exact w_X12_line_J83 C (0 : Int32) v hf
        · replace hf := ite_t hf c20
          refine wa_iconst (v := 1) C 79 dX12_line_78 rfl rfl ?_
          refine wa_goto C 83 dX12_line_79 rfl ?_
          refine wa_lv (lv' := [(0, .ref (a 0))]) [0] rfl ?_
          exact w_X12_line_J83 C (1 : Int32) v hf
    · replace hf := ite_t hf c3
      refine wa_aload_n C 0 47 dX12_line_46 rfl rfl ?_
      refine wa_iconst (v := 0) C 48 dX12_line_47 rfl rfl ?_
      refine wa_iconst (v := 0) C 49 dX12_line_48 rfl rfl ?_
      obtain ⟨q24, hq24, hf⟩ := bind_ex hf
      refine wa_callVAi (b1 := 0) (q1 := 0) (ci := 12) (As := [.int (0 : Int32), .int (0 : Int32)]) C 52 dX12_line_49 rfl kv_X12_231 (c_X12_begins hq24) ⟨rfl, rfl⟩ ⟨Nat.le_of_ble_eq_true rfl, Nat.le_of_ble_eq_true rfl⟩ rfl rfl rfl rfl rfl ⟨Nat.zero_le _, Nat.zero_le _⟩ (Nat.le_of_ble_eq_true rfl) ?_
      refine wa_if_eq C 191 55 dX12_line_52 rfl rfl (fun c25 => ?_) (fun c25 => ?_)
      · replace hf := ite_t hf c25
        refine wa_lv (lv' := [(0, .ref (a 0))]) [0] rfl ?_
        exact w_X12_line_J191 C q24.2 hf
      · replace hf := ite_f hf c25
        refine wa_aload_n C 0 56 dX12_line_55 rfl rfl ?_
        obtain ⟨q26, hq26, hf⟩ := bind_ex hf
        refine wa_callVAv (b1 := 0) (q1 := 0) (ci := 12) (As := []) C 59 dX12_line_56 rfl kv_X12_238 (c_X12_readsHouse hq26) ⟨rfl, rfl⟩ ⟨Nat.le_of_ble_eq_true rfl, Nat.le_of_ble_eq_true rfl⟩ rfl rfl rfl rfl rfl ⟨Nat.zero_le _, Nat.zero_le _⟩ (Nat.le_of_ble_eq_true rfl) ?_
        refine wa_goto C 191 dX12_line_59 rfl ?_
        refine wa_lv (lv' := [(0, .ref (a 0))]) [0] rfl ?_
        exact w_X12_line_J191 C q26 hf
  · replace hf := ite_t hf c2
    refine wa_aload_n C 0 12 dX12_line_11 rfl rfl ?_
    refine wa_aload_n C 0 13 dX12_line_12 rfl rfl ?_
    refine wa_get C 16 0 0 20 dX12_line_13 rfl iX12 q1469 rfl (Nat.le_of_ble_eq_true rfl) rfl rfl rfl ?_
    refine wa_bipush (v := 12) C 18 dX12_line_16 rfl rfl ?_
    refine wa_icmp_ne C 25 21 dX12_line_18 rfl rfl (fun c27 => ?_) (fun c27 => ?_)
    · replace hf := ite_f hf c27
      refine wa_iconst (v := 0) C 26 dX12_line_25 rfl rfl ?_
      refine wa_lv (lv' := [(0, .ref (a 0))]) [0] rfl ?_
      exact w_X12_line_J26 C (0 : Int32) v hf
    · replace hf := ite_t hf c27
      refine wa_iconst (v := 1) C 22 dX12_line_21 rfl rfl ?_
      refine wa_goto C 26 dX12_line_22 rfl ?_
      refine wa_lv (lv' := [(0, .ref (a 0))]) [0] rfl ?_
      exact w_X12_line_J26 C (1 : Int32) v hf
theorem kv_X12_257 : KV RX12 257 yX12_right cX12_right 3 (some .boolean) 2 := KV.mk q1644 q1646 qs47 q13 q1647 ⟨by decide, by decide, by decide +kernel⟩
theorem kv_X12_261 : KV RX12 261 yX12_line cX12_line 2 none 0 := KV.mk q1666 q1668 qs51 q13 q1669 ⟨by decide, by decide, by decide +kernel⟩
theorem kv_X12_270 : KV RX12 270 yX12_copies cX12_copies 4 none 2 := KV.mk q1759 q1761 qs71 q13 q1762 ⟨by decide, by decide, by decide +kernel⟩
def f_X12_village_L234 : Nat → Int32 → MS → Option (Int32 × MS)
  | 0, _, _ => none
  | n + 1, l2, z0 => (if (z0.1 1) ≤ l2 then bnd (upd z0.1 36 (0 : Int32), z0.2) (fun y31 => bnd (upd y31.1 48 (0 : Int32), y31.2) (fun y32 => bnd (upd y32.1 53 (0 : Int32), y32.2) (fun y33 => some ((0 : Int32), y33)))) else grd (vi ((2 : Int32) + l2) 172) ((if (z0.2.2 10 (((2 : Int32) + l2)).toNatClampNeg) = (-1 : Int32) then grd (vi (1 : Int32) 172) (grd (vi ((2 : Int32) + l2) 172) (bnd (z0.1, z0.2.1, uA z0.2.2 10 (((2 : Int32) + l2)).toNatClampNeg (z0.2.2 10 ((1 : Int32)).toNatClampNeg)) (fun y38 => grd (vi ((14 : Int32) + l2) 172) (bnd (y38.1, y38.2.1, uA y38.2.2 10 (((14 : Int32) + l2)).toNatClampNeg (0 : Int32)) (fun y40 => grd (vi (1 : Int32) 172) (grd (vi (1 : Int32) 172) (bnd (y40.1, y40.2.1, uA y40.2.2 10 ((1 : Int32)).toNatClampNeg ((y40.2.2 10 ((1 : Int32)).toNatClampNeg) + (1 : Int32))) (fun y43 => bnd (l2 + 1) (fun x44 => f_X12_village_L234 n x44 y43))))))))) else bnd (l2 + 1) (fun x45 => f_X12_village_L234 n x45 z0))))
def f_X12_village_L208 : Nat → Int32 → MS → Option (Int32 × MS)
  | 0, _, _ => none
  | n + 1, l2, z0 => (if (86 : Int32) ≤ l2 then f_X12_village_L234 FUEL (0 : Int32) z0 else grd (vi l2 86) (grd (vi l2 172) (bnd (z0.1, z0.2.1, uA z0.2.2 10 (l2).toNatClampNeg (z0.2.2 6 (l2).toNatClampNeg)) (fun y48 => bnd (l2 + 1) (fun x49 => f_X12_village_L208 n x49 y48)))))
def f_X12_village_J128 (z0 : MS) : Option (Int32 × MS) := (f_X12_isGood z0).bind (fun q19 => (if q19 = 0 then grd (vi (0 : Int32) 3) (grd (vi (0 : Int32) 3) (bnd (z0.1, z0.2.1, uA z0.2.2 4 ((0 : Int32)).toNatClampNeg ((z0.2.2 4 ((0 : Int32)).toNatClampNeg) + (1 : Int32))) (fun y52 => some ((y52.1 9), y52)))) else bnd (upd z0.1 1 (z0.1 20), z0.2) (fun y21 => bnd (upd y21.1 2 (y21.1 21), y21.2) (fun y22 => bnd (upd y22.1 3 (y22.1 22), y22.2) (fun y23 => bnd (upd y23.1 4 (y23.1 23), y23.2) (fun y24 => (f_X12_copies (y24.2.2 5) (y24.2.2 1) 24 24).bind (fun q25 => bnd (y24.1, y24.2.1, sA y24.2.2 1 q25) (fun y26 => (f_X12_copies (y26.2.2 7) (y26.2.2 2) 1400 1400).bind (fun q27 => bnd (y26.1, y26.2.1, sA y26.2.2 2 q27) (fun y28 => f_X12_village_L208 FUEL (0 : Int32) y28))))))))))
def f_X12_village_L107 : Nat → MS → Option (Int32 × MS)
  | 0, _ => none
  | n + 1, z0 => (f_X12_isGood z0).bind (fun q17 => (if q17 = 0 then f_X12_village_J128 z0 else (if (z0.1 14) = 0 then f_X12_village_J128 z0 else (f_X12_line z0).bind (fun q54 => f_X12_village_L107 n q54))))
def f_X12_village_L79 : Nat → Int32 → MS → Option (Int32 × MS)
  | 0, _, _ => none
  | n + 1, l2, z0 => (if (86 : Int32) ≤ l2 then bnd (upd z0.1 24 (0 : Int32), z0.2) (fun y15 => (f_X12_takes y15).bind (fun q16 => f_X12_village_L107 FUEL q16)) else grd (vi l2 86) (bnd (z0.1, z0.2.1, uA z0.2.2 6 (l2).toNatClampNeg (0 : Int32)) (fun y56 => bnd (l2 + 1) (fun x57 => f_X12_village_L79 n x57 y56))))
def f_X12_village_J23 (l1 : Int32) (t0 : Int32) (z0 : MS) : Option (Int32 × MS) := (f_X12_right z0 t0 (1 : Int32)).bind (fun q3 => (if q3.1 = 0 then some ((0 : Int32), q3.2) else bnd (upd q3.2.1 8 (0 : Int32), q3.2.2) (fun y5 => bnd (upd y5.1 10 (-1 : Int32), y5.2) (fun y6 => bnd (upd y6.1 9 (0 : Int32), y6.2) (fun y7 => bnd (upd y7.1 12 l1, y7.2) (fun y8 => bnd (upd y8.1 13 (0 : Int32), y8.2) (fun y9 => bnd (upd y9.1 20 (0 : Int32), y9.2) (fun y10 => bnd (upd y10.1 21 (0 : Int32), y10.2) (fun y11 => bnd (upd y11.1 22 (-1 : Int32), y11.2) (fun y12 => bnd (upd y12.1 23 (-1 : Int32), y12.2) (fun y13 => f_X12_village_L79 FUEL (0 : Int32) y13)))))))))))
def f_X12_village_J22 (l1 : Int32) (z0 : MS) : Option (Int32 × MS) := f_X12_village_J23 l1 (0 : Int32) z0
def f_X12_village (v : MS) (p0 : Int32) : Option (Int32 × MS) := bnd (upd v.1 0 (0 : Int32), v.2) (fun y1 => (if p0 < 0 then f_X12_village_J22 p0 y1 else (if (y1.1 8) < p0 then f_X12_village_J22 p0 y1 else f_X12_village_J23 p0 (1 : Int32) y1)))
set_option maxRecDepth 20000 in
theorem w_X12_village_L234 {p : Program} {l : Launch} {e : Env} {s : State} {m : MethodId} {args : Array Value} {below : List Frame} {meth : Method} {c : Code} {D : va_G} {A : Nat → Prop} {dT : Nat → ClassId} {a : Nat → Nat} {res : Int32 × MS} (C : Cx p s m args meth c cX12_village 3 RX12 (some .int) D A dT) : ∀ (n : Nat) (l2 : Int32) (z0 : MS), f_X12_village_L234 n l2 z0 = some res → WA p l e ({ frames := 7, cells := 0, slots := 0, locals := 159 } : Room) s m args below meth c (MQ below (QI D dT A ([wM dT a res.2]) res.1) args s 0 0 A) D A 0 0 3 234 ([wM dT a z0]) [(0, .ref (a 0)), (2, .int l2)] [] := by
  intro n
  induction n with
  | zero => intro l2 z0 hf; cases hf
  | succ n ih =>
    intro l2 z0 hf
    unfold f_X12_village_L234 at hf
    refine wa_iload_n C 1 235 dX12_village_234 rfl rfl ?_
    refine wa_aload_n C 0 236 dX12_village_235 rfl rfl ?_
    refine wa_get C 239 0 0 1 dX12_village_236 rfl iX12 q1450 rfl (Nat.le_of_ble_eq_true rfl) rfl rfl rfl ?_
    refine wa_icmp_ge C 297 242 dX12_village_239 rfl rfl (fun c30 => ?_) (fun c30 => ?_)
    · replace hf := ite_t hf c30
      refine wa_aload_n C 0 298 dX12_village_297 rfl rfl ?_
      refine wa_iconst (v := 0) C 299 dX12_village_298 rfl rfl ?_
      obtain ⟨y31, ey31, hf⟩ := bnd_ex hf
      refine wa_put (ws' := [wM dT a y31]) C 302 0 0 36 tyX12 dX12_village_299 rfl iX12 tyX12_ok nmX12 q1485 rfl (Nat.le_of_ble_eq_true rfl) rfl rfl rfl rfl rfl (Nat.le_of_ble_eq_true rfl) (by rw [ey31]; rfl) ?_
      refine wa_aload_n C 0 303 dX12_village_302 rfl rfl ?_
      refine wa_iconst (v := 0) C 304 dX12_village_303 rfl rfl ?_
      obtain ⟨y32, ey32, hf⟩ := bnd_ex hf
      refine wa_put (ws' := [wM dT a y32]) C 307 0 0 48 tyX12 dX12_village_304 rfl iX12 tyX12_ok nmX12 q1497 rfl (Nat.le_of_ble_eq_true rfl) rfl rfl rfl rfl rfl (Nat.le_of_ble_eq_true rfl) (by rw [ey32]; rfl) ?_
      refine wa_aload_n C 0 308 dX12_village_307 rfl rfl ?_
      refine wa_iconst (v := 0) C 309 dX12_village_308 rfl rfl ?_
      obtain ⟨y33, ey33, hf⟩ := bnd_ex hf
      refine wa_put (ws' := [wM dT a y33]) C 312 0 0 53 tyX12 dX12_village_309 rfl iX12 tyX12_ok nmX12 q1502 rfl (Nat.le_of_ble_eq_true rfl) rfl rfl rfl rfl rfl (Nat.le_of_ble_eq_true rfl) (by rw [ey33]; rfl) ?_
      refine wa_iconst (v := 0) C 313 dX12_village_312 rfl rfl ?_
      cases hf
      exact wa_iret C dX12_village_313 rfl rfl
    · replace hf := ite_f hf c30
      refine wa_aload_n C 0 243 dX12_village_242 rfl rfl ?_
      refine wa_get C 246 0 0 34 dX12_village_243 rfl iX12 q1483 rfl (Nat.le_of_ble_eq_true rfl) rfl rfl rfl ?_
      refine wa_iconst (v := 2) C 247 dX12_village_246 rfl rfl ?_
      refine wa_iload_n C 1 248 dX12_village_247 rfl rfl ?_
      refine wa_iadd C 249 dX12_village_248 rfl ?_
      obtain ⟨g34, hf⟩ := grd_ex hf
      refine wa_iald C 250 0 10 dX12_village_249 rfl rfl rfl (vi_in g34) ?_
      refine wa_iconst (v := (-1)) C 251 dX12_village_250 rfl rfl ?_
      refine wa_icmp_eq C 257 254 dX12_village_251 rfl rfl (fun c35 => ?_) (fun c35 => ?_)
      · replace hf := ite_t hf c35
        refine wa_aload_n C 0 258 dX12_village_257 rfl rfl ?_
        refine wa_get C 261 0 0 34 dX12_village_258 rfl iX12 q1483 rfl (Nat.le_of_ble_eq_true rfl) rfl rfl rfl ?_
        refine wa_iconst (v := 2) C 262 dX12_village_261 rfl rfl ?_
        refine wa_iload_n C 1 263 dX12_village_262 rfl rfl ?_
        refine wa_iadd C 264 dX12_village_263 rfl ?_
        refine wa_aload_n C 0 265 dX12_village_264 rfl rfl ?_
        refine wa_get C 268 0 0 34 dX12_village_265 rfl iX12 q1483 rfl (Nat.le_of_ble_eq_true rfl) rfl rfl rfl ?_
        refine wa_iconst (v := 1) C 269 dX12_village_268 rfl rfl ?_
        obtain ⟨g36, hf⟩ := grd_ex hf
        refine wa_iald C 270 0 10 dX12_village_269 rfl rfl rfl (vi_in g36) ?_
        obtain ⟨g37, hf⟩ := grd_ex hf
        obtain ⟨y38, ey38, hf⟩ := bnd_ex hf
        refine wa_iast (ws' := [wM dT a y38]) C 271 0 10 dX12_village_270 rfl rfl rfl (vi_in g37) (by rw [ey38]; rfl) ?_
        refine wa_aload_n C 0 272 dX12_village_271 rfl rfl ?_
        refine wa_get C 275 0 0 34 dX12_village_272 rfl iX12 q1483 rfl (Nat.le_of_ble_eq_true rfl) rfl rfl rfl ?_
        refine wa_bipush (v := 14) C 277 dX12_village_275 rfl rfl ?_
        refine wa_iload_n C 1 278 dX12_village_277 rfl rfl ?_
        refine wa_iadd C 279 dX12_village_278 rfl ?_
        refine wa_iconst (v := 0) C 280 dX12_village_279 rfl rfl ?_
        obtain ⟨g39, hf⟩ := grd_ex hf
        obtain ⟨y40, ey40, hf⟩ := bnd_ex hf
        refine wa_iast (ws' := [wM dT a y40]) C 281 0 10 dX12_village_280 rfl rfl rfl (vi_in g39) (by rw [ey40]; rfl) ?_
        refine wa_aload_n C 0 282 dX12_village_281 rfl rfl ?_
        refine wa_get C 285 0 0 34 dX12_village_282 rfl iX12 q1483 rfl (Nat.le_of_ble_eq_true rfl) rfl rfl rfl ?_
        refine wa_iconst (v := 1) C 286 dX12_village_285 rfl rfl ?_
        refine wa_dup2 C 287 dX12_village_286 rfl rfl rfl ?_
        obtain ⟨g41, hf⟩ := grd_ex hf
        refine wa_iald C 288 0 10 dX12_village_287 rfl rfl rfl (vi_in g41) ?_
        refine wa_iconst (v := 1) C 289 dX12_village_288 rfl rfl ?_
        refine wa_iadd C 290 dX12_village_289 rfl ?_
        obtain ⟨g42, hf⟩ := grd_ex hf
        obtain ⟨y43, ey43, hf⟩ := bnd_ex hf
        refine wa_iast (ws' := [wM dT a y43]) C 291 0 10 dX12_village_290 rfl rfl rfl (vi_in g42) (by rw [ey43]; rfl) ?_
        obtain ⟨x44, ex44, hf⟩ := bnd_ex hf
        refine wa_iinc (v := x44) (lv' := [(0, .ref (a 0)), (2, .int x44)]) C 1 [1, 0] 294 dX12_village_291 rfl rfl (by rw [ex44]; rfl) (Nat.le_of_ble_eq_true rfl) rfl ?_
        refine wa_goto C 234 dX12_village_294 rfl ?_
        exact ih x44 y43 hf
      · replace hf := ite_f hf c35
        refine wa_goto C 291 dX12_village_254 rfl ?_
        obtain ⟨x45, ex45, hf⟩ := bnd_ex hf
        refine wa_iinc (v := x45) (lv' := [(0, .ref (a 0)), (2, .int x45)]) C 1 [1, 0] 294 dX12_village_291 rfl rfl (by rw [ex45]; rfl) (Nat.le_of_ble_eq_true rfl) rfl ?_
        refine wa_goto C 234 dX12_village_294 rfl ?_
        exact ih x45 z0 hf
set_option maxRecDepth 20000 in
theorem w_X12_village_L208 {p : Program} {l : Launch} {e : Env} {s : State} {m : MethodId} {args : Array Value} {below : List Frame} {meth : Method} {c : Code} {D : va_G} {A : Nat → Prop} {dT : Nat → ClassId} {a : Nat → Nat} {res : Int32 × MS} (C : Cx p s m args meth c cX12_village 3 RX12 (some .int) D A dT) : ∀ (n : Nat) (l2 : Int32) (z0 : MS), f_X12_village_L208 n l2 z0 = some res → WA p l e ({ frames := 7, cells := 0, slots := 0, locals := 159 } : Room) s m args below meth c (MQ below (QI D dT A ([wM dT a res.2]) res.1) args s 0 0 A) D A 0 0 3 208 ([wM dT a z0]) [(0, .ref (a 0)), (2, .int l2)] [] := by
  intro n
  induction n with
  | zero => intro l2 z0 hf; cases hf
  | succ n ih =>
    intro l2 z0 hf
    unfold f_X12_village_L208 at hf
    refine wa_iload_n C 1 209 dX12_village_208 rfl rfl ?_
    refine wa_bipush (v := 86) C 211 dX12_village_209 rfl rfl ?_
    refine wa_icmp_ge C 232 214 dX12_village_211 rfl rfl (fun c29 => ?_) (fun c29 => ?_)
    · replace hf := ite_t hf c29
      refine wa_iconst (v := 0) C 233 dX12_village_232 rfl rfl ?_
      refine wa_istore_n (lv' := [(0, .ref (a 0)), (2, .int (0 : Int32))]) C [1, 0] 234 dX12_village_233 rfl (Nat.le_of_ble_eq_true rfl) rfl ?_
      exact w_X12_village_L234 C FUEL (0 : Int32) z0 hf
    · replace hf := ite_f hf c29
      refine wa_aload_n C 0 215 dX12_village_214 rfl rfl ?_
      refine wa_get C 218 0 0 34 dX12_village_215 rfl iX12 q1483 rfl (Nat.le_of_ble_eq_true rfl) rfl rfl rfl ?_
      refine wa_iload_n C 1 219 dX12_village_218 rfl rfl ?_
      refine wa_aload_n C 0 220 dX12_village_219 rfl rfl ?_
      refine wa_get C 223 0 0 30 dX12_village_220 rfl iX12 q1479 rfl (Nat.le_of_ble_eq_true rfl) rfl rfl rfl ?_
      refine wa_iload_n C 1 224 dX12_village_223 rfl rfl ?_
      obtain ⟨g46, hf⟩ := grd_ex hf
      refine wa_iald C 225 0 6 dX12_village_224 rfl rfl rfl (vi_in g46) ?_
      obtain ⟨g47, hf⟩ := grd_ex hf
      obtain ⟨y48, ey48, hf⟩ := bnd_ex hf
      refine wa_iast (ws' := [wM dT a y48]) C 226 0 10 dX12_village_225 rfl rfl rfl (vi_in g47) (by rw [ey48]; rfl) ?_
      obtain ⟨x49, ex49, hf⟩ := bnd_ex hf
      refine wa_iinc (v := x49) (lv' := [(0, .ref (a 0)), (2, .int x49)]) C 1 [1, 0] 229 dX12_village_226 rfl rfl (by rw [ex49]; rfl) (Nat.le_of_ble_eq_true rfl) rfl ?_
      refine wa_goto C 208 dX12_village_229 rfl ?_
      exact ih x49 y48 hf
set_option maxRecDepth 20000 in
theorem w_X12_village_J128 {p : Program} {l : Launch} {e : Env} {s : State} {m : MethodId} {args : Array Value} {below : List Frame} {meth : Method} {c : Code} {D : va_G} {A : Nat → Prop} {dT : Nat → ClassId} {a : Nat → Nat} {res : Int32 × MS} (C : Cx p s m args meth c cX12_village 3 RX12 (some .int) D A dT) : ∀ (z0 : MS), f_X12_village_J128 z0 = some res → WA p l e ({ frames := 7, cells := 0, slots := 0, locals := 159 } : Room) s m args below meth c (MQ below (QI D dT A ([wM dT a res.2]) res.1) args s 0 0 A) D A 0 0 3 128 ([wM dT a z0]) [(0, .ref (a 0))] [] := by
  intro z0 hf
  unfold f_X12_village_J128 at hf
  refine wa_aload_n C 0 129 dX12_village_128 rfl rfl ?_
  obtain ⟨q19, hq19, hf⟩ := bind_ex hf
  refine wa_callVAi (b1 := 0) (q1 := 0) (ci := 12) (As := []) C 132 dX12_village_129 rfl kv_X12_155 (c_X12_isGood hq19) ⟨rfl, rfl⟩ ⟨Nat.le_of_ble_eq_true rfl, Nat.le_of_ble_eq_true rfl⟩ rfl rfl rfl rfl rfl ⟨Nat.zero_le _, Nat.zero_le _⟩ (Nat.le_of_ble_eq_true rfl) ?_
  refine wa_if_ne C 150 135 dX12_village_132 rfl rfl (fun c20 => ?_) (fun c20 => ?_)
  · replace hf := ite_f hf c20
    refine wa_aload_n C 0 151 dX12_village_150 rfl rfl ?_
    refine wa_aload_n C 0 152 dX12_village_151 rfl rfl ?_
    refine wa_get C 155 0 0 20 dX12_village_152 rfl iX12 q1469 rfl (Nat.le_of_ble_eq_true rfl) rfl rfl rfl ?_
    obtain ⟨y21, ey21, hf⟩ := bnd_ex hf
    refine wa_put (ws' := [wM dT a y21]) C 158 0 0 1 tyX12 dX12_village_155 rfl iX12 tyX12_ok nmX12 q1450 rfl (Nat.le_of_ble_eq_true rfl) rfl rfl rfl rfl rfl (Nat.le_of_ble_eq_true rfl) (by rw [ey21]; rfl) ?_
    refine wa_aload_n C 0 159 dX12_village_158 rfl rfl ?_
    refine wa_aload_n C 0 160 dX12_village_159 rfl rfl ?_
    refine wa_get C 163 0 0 21 dX12_village_160 rfl iX12 q1470 rfl (Nat.le_of_ble_eq_true rfl) rfl rfl rfl ?_
    obtain ⟨y22, ey22, hf⟩ := bnd_ex hf
    refine wa_put (ws' := [wM dT a y22]) C 166 0 0 2 tyX12 dX12_village_163 rfl iX12 tyX12_ok nmX12 q1451 rfl (Nat.le_of_ble_eq_true rfl) rfl rfl rfl rfl rfl (Nat.le_of_ble_eq_true rfl) (by rw [ey22]; rfl) ?_
    refine wa_aload_n C 0 167 dX12_village_166 rfl rfl ?_
    refine wa_aload_n C 0 168 dX12_village_167 rfl rfl ?_
    refine wa_get C 171 0 0 22 dX12_village_168 rfl iX12 q1471 rfl (Nat.le_of_ble_eq_true rfl) rfl rfl rfl ?_
    obtain ⟨y23, ey23, hf⟩ := bnd_ex hf
    refine wa_put (ws' := [wM dT a y23]) C 174 0 0 3 tyX12 dX12_village_171 rfl iX12 tyX12_ok nmX12 q1452 rfl (Nat.le_of_ble_eq_true rfl) rfl rfl rfl rfl rfl (Nat.le_of_ble_eq_true rfl) (by rw [ey23]; rfl) ?_
    refine wa_aload_n C 0 175 dX12_village_174 rfl rfl ?_
    refine wa_aload_n C 0 176 dX12_village_175 rfl rfl ?_
    refine wa_get C 179 0 0 23 dX12_village_176 rfl iX12 q1472 rfl (Nat.le_of_ble_eq_true rfl) rfl rfl rfl ?_
    obtain ⟨y24, ey24, hf⟩ := bnd_ex hf
    refine wa_put (ws' := [wM dT a y24]) C 182 0 0 4 tyX12 dX12_village_179 rfl iX12 tyX12_ok nmX12 q1453 rfl (Nat.le_of_ble_eq_true rfl) rfl rfl rfl rfl rfl (Nat.le_of_ble_eq_true rfl) (by rw [ey24]; rfl) ?_
    refine wa_aload_n C 0 183 dX12_village_182 rfl rfl ?_
    refine wa_aload_n C 0 184 dX12_village_183 rfl rfl ?_
    refine wa_get C 187 0 0 29 dX12_village_184 rfl iX12 q1478 rfl (Nat.le_of_ble_eq_true rfl) rfl rfl rfl ?_
    refine wa_aload_n C 0 188 dX12_village_187 rfl rfl ?_
    refine wa_get C 191 0 0 5 dX12_village_188 rfl iX12 q1454 rfl (Nat.le_of_ble_eq_true rfl) rfl rfl rfl ?_
    refine wa_open 0 5 rfl rfl ?_
    refine wa_open 0 1 rfl rfl ?_
    obtain ⟨q25, hq25, hf⟩ := bind_ex hf
    obtain ⟨y26, ey26, hf⟩ := bnd_ex hf
    refine wa_callVv (b1 := 0) (q1 := 0) (ci := 12) (ws' := [((wM dT a y24).eraseIdx 5).eraseIdx 1, [(a 5, .inl (dT 0, 24, .inl (y24.2.2 5)))], [(a 1, .inl (dT 0, 24, .inl q25))]]) (As := [.ref (a 5), .ref (a 1)]) C 194 dX12_village_191 rfl kv_X12_270 (c_X12_copies hq25) ⟨rfl, rfl⟩ ⟨Nat.le_of_ble_eq_true rfl, Nat.le_of_ble_eq_true rfl⟩ rfl rfl rfl [1, 2] [0] [0, 1, 2] rfl rfl rfl rfl (by decide) rfl rfl rfl rfl ⟨Nat.zero_le _, Nat.zero_le _⟩ (Nat.le_of_ble_eq_true rfl) ?_
    refine wa_close (ws := [((wM dT a y24).eraseIdx 5).eraseIdx 1, [(a 5, .inl (dT 0, 24, .inl (y24.2.2 5)))]]) (ws' := [(wM dT a y26).eraseIdx 5, [(a 5, .inl (dT 0, 24, .inl (y24.2.2 5)))]]) 0 1 ((wM dT a y26).eraseIdx 5) (by rw [ey26]; rfl) (by rw [ey26]; rfl) rfl ?_
    refine wa_close (ws := [(wM dT a y26).eraseIdx 5]) (ws' := [wM dT a y26]) 0 5 (wM dT a y26) (by rw [ey26]; rfl) (by rw [ey26]; rfl) rfl ?_
    refine wa_aload_n C 0 195 dX12_village_194 rfl rfl ?_
    refine wa_aload_n C 0 196 dX12_village_195 rfl rfl ?_
    refine wa_get C 199 0 0 31 dX12_village_196 rfl iX12 q1480 rfl (Nat.le_of_ble_eq_true rfl) rfl rfl rfl ?_
    refine wa_aload_n C 0 200 dX12_village_199 rfl rfl ?_
    refine wa_get C 203 0 0 6 dX12_village_200 rfl iX12 q1455 rfl (Nat.le_of_ble_eq_true rfl) rfl rfl rfl ?_
    refine wa_open 0 7 rfl rfl ?_
    refine wa_open 0 2 rfl rfl ?_
    obtain ⟨q27, hq27, hf⟩ := bind_ex hf
    obtain ⟨y28, ey28, hf⟩ := bnd_ex hf
    refine wa_callVv (b1 := 0) (q1 := 0) (ci := 12) (ws' := [((wM dT a y26).eraseIdx 7).eraseIdx 2, [(a 7, .inl (dT 0, 1400, .inl (y26.2.2 7)))], [(a 2, .inl (dT 0, 1400, .inl q27))]]) (As := [.ref (a 7), .ref (a 2)]) C 206 dX12_village_203 rfl kv_X12_270 (c_X12_copies hq27) ⟨rfl, rfl⟩ ⟨Nat.le_of_ble_eq_true rfl, Nat.le_of_ble_eq_true rfl⟩ rfl rfl rfl [1, 2] [0] [0, 1, 2] rfl rfl rfl rfl (by decide) rfl rfl rfl rfl ⟨Nat.zero_le _, Nat.zero_le _⟩ (Nat.le_of_ble_eq_true rfl) ?_
    refine wa_close (ws := [((wM dT a y26).eraseIdx 7).eraseIdx 2, [(a 7, .inl (dT 0, 1400, .inl (y26.2.2 7)))]]) (ws' := [(wM dT a y28).eraseIdx 7, [(a 7, .inl (dT 0, 1400, .inl (y26.2.2 7)))]]) 0 2 ((wM dT a y28).eraseIdx 7) (by rw [ey28]; rfl) (by rw [ey28]; rfl) rfl ?_
    refine wa_close (ws := [(wM dT a y28).eraseIdx 7]) (ws' := [wM dT a y28]) 0 7 (wM dT a y28) (by rw [ey28]; rfl) (by rw [ey28]; rfl) rfl ?_
    refine wa_iconst (v := 0) C 207 dX12_village_206 rfl rfl ?_
    refine wa_istore_n (lv' := [(0, .ref (a 0)), (2, .int (0 : Int32))]) C [1, 0] 208 dX12_village_207 rfl (Nat.le_of_ble_eq_true rfl) rfl ?_
    exact w_X12_village_L208 C FUEL (0 : Int32) y28 hf
  · replace hf := ite_t hf c20
    refine wa_aload_n C 0 136 dX12_village_135 rfl rfl ?_
    refine wa_get C 139 0 0 11 dX12_village_136 rfl iX12 q1460 rfl (Nat.le_of_ble_eq_true rfl) rfl rfl rfl ?_
    refine wa_iconst (v := 0) C 140 dX12_village_139 rfl rfl ?_
    refine wa_dup2 C 141 dX12_village_140 rfl rfl rfl ?_
    obtain ⟨g50, hf⟩ := grd_ex hf
    refine wa_iald C 142 0 4 dX12_village_141 rfl rfl rfl (vi_in g50) ?_
    refine wa_iconst (v := 1) C 143 dX12_village_142 rfl rfl ?_
    refine wa_iadd C 144 dX12_village_143 rfl ?_
    obtain ⟨g51, hf⟩ := grd_ex hf
    obtain ⟨y52, ey52, hf⟩ := bnd_ex hf
    refine wa_iast (ws' := [wM dT a y52]) C 145 0 4 dX12_village_144 rfl rfl rfl (vi_in g51) (by rw [ey52]; rfl) ?_
    refine wa_aload_n C 0 146 dX12_village_145 rfl rfl ?_
    refine wa_get C 149 0 0 9 dX12_village_146 rfl iX12 q1458 rfl (Nat.le_of_ble_eq_true rfl) rfl rfl rfl ?_
    cases hf
    exact wa_iret C dX12_village_149 rfl rfl
set_option maxRecDepth 20000 in
theorem w_X12_village_L107 {p : Program} {l : Launch} {e : Env} {s : State} {m : MethodId} {args : Array Value} {below : List Frame} {meth : Method} {c : Code} {D : va_G} {A : Nat → Prop} {dT : Nat → ClassId} {a : Nat → Nat} {res : Int32 × MS} (C : Cx p s m args meth c cX12_village 3 RX12 (some .int) D A dT) : ∀ (n : Nat) (z0 : MS), f_X12_village_L107 n z0 = some res → WA p l e ({ frames := 7, cells := 0, slots := 0, locals := 159 } : Room) s m args below meth c (MQ below (QI D dT A ([wM dT a res.2]) res.1) args s 0 0 A) D A 0 0 3 107 ([wM dT a z0]) [(0, .ref (a 0))] [] := by
  intro n
  induction n with
  | zero => intro z0 hf; cases hf
  | succ n ih =>
    intro z0 hf
    unfold f_X12_village_L107 at hf
    refine wa_aload_n C 0 108 dX12_village_107 rfl rfl ?_
    obtain ⟨q17, hq17, hf⟩ := bind_ex hf
    refine wa_callVAi (b1 := 0) (q1 := 0) (ci := 12) (As := []) C 111 dX12_village_108 rfl kv_X12_155 (c_X12_isGood hq17) ⟨rfl, rfl⟩ ⟨Nat.le_of_ble_eq_true rfl, Nat.le_of_ble_eq_true rfl⟩ rfl rfl rfl rfl rfl ⟨Nat.zero_le _, Nat.zero_le _⟩ (Nat.le_of_ble_eq_true rfl) ?_
    refine wa_if_eq C 128 114 dX12_village_111 rfl rfl (fun c18 => ?_) (fun c18 => ?_)
    · replace hf := ite_t hf c18
      exact w_X12_village_J128 C z0 hf
    · replace hf := ite_f hf c18
      refine wa_aload_n C 0 115 dX12_village_114 rfl rfl ?_
      refine wa_get C 118 0 0 14 dX12_village_115 rfl iX12 q1463 rfl (Nat.le_of_ble_eq_true rfl) rfl rfl rfl ?_
      refine wa_if_eq C 128 121 dX12_village_118 rfl rfl (fun c53 => ?_) (fun c53 => ?_)
      · replace hf := ite_t hf c53
        exact w_X12_village_J128 C z0 hf
      · replace hf := ite_f hf c53
        refine wa_aload_n C 0 122 dX12_village_121 rfl rfl ?_
        obtain ⟨q54, hq54, hf⟩ := bind_ex hf
        refine wa_callVAv (b1 := 0) (q1 := 0) (ci := 12) (As := []) C 125 dX12_village_122 rfl kv_X12_261 (c_X12_line hq54) ⟨rfl, rfl⟩ ⟨Nat.le_of_ble_eq_true rfl, Nat.le_of_ble_eq_true rfl⟩ rfl rfl rfl rfl rfl ⟨Nat.zero_le _, Nat.zero_le _⟩ (Nat.le_of_ble_eq_true rfl) ?_
        refine wa_goto C 107 dX12_village_125 rfl ?_
        exact ih q54 hf
set_option maxRecDepth 20000 in
theorem w_X12_village_L79 {p : Program} {l : Launch} {e : Env} {s : State} {m : MethodId} {args : Array Value} {below : List Frame} {meth : Method} {c : Code} {D : va_G} {A : Nat → Prop} {dT : Nat → ClassId} {a : Nat → Nat} {res : Int32 × MS} (C : Cx p s m args meth c cX12_village 3 RX12 (some .int) D A dT) : ∀ (n : Nat) (l2 : Int32) (z0 : MS), f_X12_village_L79 n l2 z0 = some res → WA p l e ({ frames := 7, cells := 0, slots := 0, locals := 159 } : Room) s m args below meth c (MQ below (QI D dT A ([wM dT a res.2]) res.1) args s 0 0 A) D A 0 0 3 79 ([wM dT a z0]) [(0, .ref (a 0)), (2, .int l2)] [] := by
  intro n
  induction n with
  | zero => intro l2 z0 hf; cases hf
  | succ n ih =>
    intro l2 z0 hf
    unfold f_X12_village_L79 at hf
    refine wa_iload_n C 1 80 dX12_village_79 rfl rfl ?_
    refine wa_bipush (v := 86) C 82 dX12_village_80 rfl rfl ?_
    refine wa_icmp_ge C 98 85 dX12_village_82 rfl rfl (fun c14 => ?_) (fun c14 => ?_)
    · replace hf := ite_t hf c14
      refine wa_aload_n C 0 99 dX12_village_98 rfl rfl ?_
      refine wa_iconst (v := 0) C 100 dX12_village_99 rfl rfl ?_
      obtain ⟨y15, ey15, hf⟩ := bnd_ex hf
      refine wa_put (ws' := [wM dT a y15]) C 103 0 0 24 tyX12 dX12_village_100 rfl iX12 tyX12_ok nmX12 q1473 rfl (Nat.le_of_ble_eq_true rfl) rfl rfl rfl rfl rfl (Nat.le_of_ble_eq_true rfl) (by rw [ey15]; rfl) ?_
      refine wa_aload_n C 0 104 dX12_village_103 rfl rfl ?_
      obtain ⟨q16, hq16, hf⟩ := bind_ex hf
      refine wa_callVAv (b1 := 0) (q1 := 0) (ci := 12) (As := []) C 107 dX12_village_104 rfl kv_X12_159 (c_X12_takes hq16) ⟨rfl, rfl⟩ ⟨Nat.le_of_ble_eq_true rfl, Nat.le_of_ble_eq_true rfl⟩ rfl rfl rfl rfl rfl ⟨Nat.zero_le _, Nat.zero_le _⟩ (Nat.le_of_ble_eq_true rfl) ?_
      refine wa_lv (lv' := [(0, .ref (a 0))]) [0] rfl ?_
      exact w_X12_village_L107 C FUEL q16 hf
    · replace hf := ite_f hf c14
      refine wa_aload_n C 0 86 dX12_village_85 rfl rfl ?_
      refine wa_get C 89 0 0 30 dX12_village_86 rfl iX12 q1479 rfl (Nat.le_of_ble_eq_true rfl) rfl rfl rfl ?_
      refine wa_iload_n C 1 90 dX12_village_89 rfl rfl ?_
      refine wa_iconst (v := 0) C 91 dX12_village_90 rfl rfl ?_
      obtain ⟨g55, hf⟩ := grd_ex hf
      obtain ⟨y56, ey56, hf⟩ := bnd_ex hf
      refine wa_iast (ws' := [wM dT a y56]) C 92 0 6 dX12_village_91 rfl rfl rfl (vi_in g55) (by rw [ey56]; rfl) ?_
      obtain ⟨x57, ex57, hf⟩ := bnd_ex hf
      refine wa_iinc (v := x57) (lv' := [(0, .ref (a 0)), (2, .int x57)]) C 1 [1, 0] 95 dX12_village_92 rfl rfl (by rw [ex57]; rfl) (Nat.le_of_ble_eq_true rfl) rfl ?_
      refine wa_goto C 79 dX12_village_95 rfl ?_
      exact ih x57 y56 hf
set_option maxRecDepth 20000 in
theorem w_X12_village_J23 {p : Program} {l : Launch} {e : Env} {s : State} {m : MethodId} {args : Array Value} {below : List Frame} {meth : Method} {c : Code} {D : va_G} {A : Nat → Prop} {dT : Nat → ClassId} {a : Nat → Nat} {res : Int32 × MS} (C : Cx p s m args meth c cX12_village 3 RX12 (some .int) D A dT) : ∀ (l1 : Int32) (t0 : Int32) (z0 : MS), f_X12_village_J23 l1 t0 z0 = some res → WA p l e ({ frames := 7, cells := 0, slots := 0, locals := 159 } : Room) s m args below meth c (MQ below (QI D dT A ([wM dT a res.2]) res.1) args s 0 0 A) D A 0 0 3 23 ([wM dT a z0]) [(0, .ref (a 0)), (1, .int l1)] [.int t0, .ref (a 0)] := by
  intro l1 t0 z0 hf
  unfold f_X12_village_J23 at hf
  refine wa_iconst (v := 1) C 24 dX12_village_23 rfl rfl ?_
  obtain ⟨q3, hq3, hf⟩ := bind_ex hf
  refine wa_callVAi (b1 := 0) (q1 := 0) (ci := 12) (As := [.int t0, .int (1 : Int32)]) C 27 dX12_village_24 rfl kv_X12_257 (c_X12_right hq3) ⟨rfl, rfl⟩ ⟨Nat.le_of_ble_eq_true rfl, Nat.le_of_ble_eq_true rfl⟩ rfl rfl rfl rfl rfl ⟨Nat.zero_le _, Nat.zero_le _⟩ (Nat.le_of_ble_eq_true rfl) ?_
  refine wa_if_ne C 32 30 dX12_village_27 rfl rfl (fun c4 => ?_) (fun c4 => ?_)
  · replace hf := ite_f hf c4
    refine wa_aload_n C 0 33 dX12_village_32 rfl rfl ?_
    refine wa_iconst (v := 0) C 34 dX12_village_33 rfl rfl ?_
    obtain ⟨y5, ey5, hf⟩ := bnd_ex hf
    refine wa_put (ws' := [wM dT a y5]) C 37 0 0 8 tyX12 dX12_village_34 rfl iX12 tyX12_ok nmX12 q1457 rfl (Nat.le_of_ble_eq_true rfl) rfl rfl rfl rfl rfl (Nat.le_of_ble_eq_true rfl) (by rw [ey5]; rfl) ?_
    refine wa_aload_n C 0 38 dX12_village_37 rfl rfl ?_
    refine wa_iconst (v := (-1)) C 39 dX12_village_38 rfl rfl ?_
    obtain ⟨y6, ey6, hf⟩ := bnd_ex hf
    refine wa_put (ws' := [wM dT a y6]) C 42 0 0 10 tyX12 dX12_village_39 rfl iX12 tyX12_ok nmX12 q1459 rfl (Nat.le_of_ble_eq_true rfl) rfl rfl rfl rfl rfl (Nat.le_of_ble_eq_true rfl) (by rw [ey6]; rfl) ?_
    refine wa_aload_n C 0 43 dX12_village_42 rfl rfl ?_
    refine wa_iconst (v := 0) C 44 dX12_village_43 rfl rfl ?_
    obtain ⟨y7, ey7, hf⟩ := bnd_ex hf
    refine wa_put (ws' := [wM dT a y7]) C 47 0 0 9 tyX12 dX12_village_44 rfl iX12 tyX12_ok nmX12 q1458 rfl (Nat.le_of_ble_eq_true rfl) rfl rfl rfl rfl rfl (Nat.le_of_ble_eq_true rfl) (by rw [ey7]; rfl) ?_
    refine wa_aload_n C 0 48 dX12_village_47 rfl rfl ?_
    refine wa_iload_n C 1 49 dX12_village_48 rfl rfl ?_
    obtain ⟨y8, ey8, hf⟩ := bnd_ex hf
    refine wa_put (ws' := [wM dT a y8]) C 52 0 0 12 tyX12 dX12_village_49 rfl iX12 tyX12_ok nmX12 q1461 rfl (Nat.le_of_ble_eq_true rfl) rfl rfl rfl rfl rfl (Nat.le_of_ble_eq_true rfl) (by rw [ey8]; rfl) ?_
    refine wa_aload_n C 0 53 dX12_village_52 rfl rfl ?_
    refine wa_iconst (v := 0) C 54 dX12_village_53 rfl rfl ?_
    obtain ⟨y9, ey9, hf⟩ := bnd_ex hf
    refine wa_put (ws' := [wM dT a y9]) C 57 0 0 13 tyX12 dX12_village_54 rfl iX12 tyX12_ok nmX12 q1462 rfl (Nat.le_of_ble_eq_true rfl) rfl rfl rfl rfl rfl (Nat.le_of_ble_eq_true rfl) (by rw [ey9]; rfl) ?_
    refine wa_aload_n C 0 58 dX12_village_57 rfl rfl ?_
    refine wa_iconst (v := 0) C 59 dX12_village_58 rfl rfl ?_
    obtain ⟨y10, ey10, hf⟩ := bnd_ex hf
    refine wa_put (ws' := [wM dT a y10]) C 62 0 0 20 tyX12 dX12_village_59 rfl iX12 tyX12_ok nmX12 q1469 rfl (Nat.le_of_ble_eq_true rfl) rfl rfl rfl rfl rfl (Nat.le_of_ble_eq_true rfl) (by rw [ey10]; rfl) ?_
    refine wa_aload_n C 0 63 dX12_village_62 rfl rfl ?_
    refine wa_iconst (v := 0) C 64 dX12_village_63 rfl rfl ?_
    obtain ⟨y11, ey11, hf⟩ := bnd_ex hf
    refine wa_put (ws' := [wM dT a y11]) C 67 0 0 21 tyX12 dX12_village_64 rfl iX12 tyX12_ok nmX12 q1470 rfl (Nat.le_of_ble_eq_true rfl) rfl rfl rfl rfl rfl (Nat.le_of_ble_eq_true rfl) (by rw [ey11]; rfl) ?_
    refine wa_aload_n C 0 68 dX12_village_67 rfl rfl ?_
    refine wa_iconst (v := (-1)) C 69 dX12_village_68 rfl rfl ?_
    obtain ⟨y12, ey12, hf⟩ := bnd_ex hf
    refine wa_put (ws' := [wM dT a y12]) C 72 0 0 22 tyX12 dX12_village_69 rfl iX12 tyX12_ok nmX12 q1471 rfl (Nat.le_of_ble_eq_true rfl) rfl rfl rfl rfl rfl (Nat.le_of_ble_eq_true rfl) (by rw [ey12]; rfl) ?_
    refine wa_aload_n C 0 73 dX12_village_72 rfl rfl ?_
    refine wa_iconst (v := (-1)) C 74 dX12_village_73 rfl rfl ?_
    obtain ⟨y13, ey13, hf⟩ := bnd_ex hf
    refine wa_put (ws' := [wM dT a y13]) C 77 0 0 23 tyX12 dX12_village_74 rfl iX12 tyX12_ok nmX12 q1472 rfl (Nat.le_of_ble_eq_true rfl) rfl rfl rfl rfl rfl (Nat.le_of_ble_eq_true rfl) (by rw [ey13]; rfl) ?_
    refine wa_iconst (v := 0) C 78 dX12_village_77 rfl rfl ?_
    refine wa_istore_n (lv' := [(0, .ref (a 0)), (1, .int l1), (2, .int (0 : Int32))]) C [1, 2, 0] 79 dX12_village_78 rfl (Nat.le_of_ble_eq_true rfl) rfl ?_
    refine wa_lv (lv' := [(0, .ref (a 0)), (2, .int (0 : Int32))]) [0, 2] rfl ?_
    exact w_X12_village_L79 C FUEL (0 : Int32) y13 hf
  · replace hf := ite_t hf c4
    refine wa_iconst (v := 0) C 31 dX12_village_30 rfl rfl ?_
    cases hf
    exact wa_iret C dX12_village_31 rfl rfl
set_option maxRecDepth 20000 in
theorem w_X12_village_J22 {p : Program} {l : Launch} {e : Env} {s : State} {m : MethodId} {args : Array Value} {below : List Frame} {meth : Method} {c : Code} {D : va_G} {A : Nat → Prop} {dT : Nat → ClassId} {a : Nat → Nat} {res : Int32 × MS} (C : Cx p s m args meth c cX12_village 3 RX12 (some .int) D A dT) : ∀ (l1 : Int32) (z0 : MS), f_X12_village_J22 l1 z0 = some res → WA p l e ({ frames := 7, cells := 0, slots := 0, locals := 159 } : Room) s m args below meth c (MQ below (QI D dT A ([wM dT a res.2]) res.1) args s 0 0 A) D A 0 0 3 22 ([wM dT a z0]) [(0, .ref (a 0)), (1, .int l1)] [.ref (a 0)] := by
  intro l1 z0 hf
  unfold f_X12_village_J22 at hf
  refine wa_iconst (v := 0) C 23 dX12_village_22 rfl rfl ?_
  exact w_X12_village_J23 C l1 (0 : Int32) z0 hf
set_option maxRecDepth 20000 in
theorem c_X12_village {l : Launch} {D : va_G} {dT : Nat → ClassId} {a : Nat → Nat} {v : MS} {p0 : Int32} {res : Int32 × MS} (hf : f_X12_village v p0 = some res) : CTi l yX12_village cX12_village 3 (some .int) ({ frames := 7, cells := 0, slots := 0, locals := 159 } : Room) D dT [.ref (a 0), .int p0] ([wM dT a v]) ([wM dT a res.2]) res.1 := by
  refine CTi.of (by decide) (Nat.le_of_ble_eq_true rfl) rfl ?_
  intro p e s m args below meth c A C
  unfold f_X12_village at hf
  refine wa_aload_n C 0 1 dX12_village_0 rfl rfl ?_
  refine wa_iconst (v := 0) C 2 dX12_village_1 rfl rfl ?_
  obtain ⟨y1, ey1, hf⟩ := bnd_ex hf
  refine wa_put (ws' := [wM dT a y1]) C 5 0 0 0 tyX12 dX12_village_2 rfl iX12 tyX12_ok nmX12 q1449 rfl (Nat.le_of_ble_eq_true rfl) rfl rfl rfl rfl rfl (Nat.le_of_ble_eq_true rfl) (by rw [ey1]; rfl) ?_
  refine wa_aload_n C 0 6 dX12_village_5 rfl rfl ?_
  refine wa_iload_n C 1 7 dX12_village_6 rfl rfl ?_
  refine wa_if_lt C 22 10 dX12_village_7 rfl rfl (fun c2 => ?_) (fun c2 => ?_)
  · replace hf := ite_t hf c2
    exact w_X12_village_J22 C p0 y1 hf
  · replace hf := ite_f hf c2
    refine wa_iload_n C 1 11 dX12_village_10 rfl rfl ?_
    refine wa_aload_n C 0 12 dX12_village_11 rfl rfl ?_
    refine wa_get C 15 0 0 8 dX12_village_12 rfl iX12 q1457 rfl (Nat.le_of_ble_eq_true rfl) rfl rfl rfl ?_
    refine wa_icmp_gt C 22 18 dX12_village_15 rfl rfl (fun c58 => ?_) (fun c58 => ?_)
    · replace hf := ite_t hf c58
      exact w_X12_village_J22 C p0 y1 hf
    · replace hf := ite_f hf c58
      refine wa_iconst (v := 1) C 19 dX12_village_18 rfl rfl ?_
      refine wa_goto C 23 dX12_village_19 rfl ?_
      exact w_X12_village_J23 C p0 (1 : Int32) y1 hf
def f_X12_fault (v : MS) : Option (Int32 × MS) := bnd (upd v.1 0 (0 : Int32), v.2) (fun y1 => some ((y1.1 10), y1))
set_option maxRecDepth 20000 in
theorem c_X12_fault {l : Launch} {D : va_G} {dT : Nat → ClassId} {a : Nat → Nat} {v : MS} {res : Int32 × MS} (hf : f_X12_fault v = some res) : CTi l yX12_fault cX12_fault 1 (some .int) ({ frames := 0, cells := 0, slots := 0, locals := 0 } : Room) D dT [.ref (a 0)] ([wM dT a v]) ([wM dT a res.2]) res.1 := by
  refine CTi.of (by decide) (Nat.le_of_ble_eq_true rfl) rfl ?_
  intro p e s m args below meth c A C
  unfold f_X12_fault at hf
  refine wa_aload_n C 0 1 dX12_fault_0 rfl rfl ?_
  refine wa_iconst (v := 0) C 2 dX12_fault_1 rfl rfl ?_
  obtain ⟨y1, ey1, hf⟩ := bnd_ex hf
  refine wa_put (ws' := [wM dT a y1]) C 5 0 0 0 tyX12 dX12_fault_2 rfl iX12 tyX12_ok nmX12 q1449 rfl (Nat.le_of_ble_eq_true rfl) rfl rfl rfl rfl rfl (Nat.le_of_ble_eq_true rfl) (by rw [ey1]; rfl) ?_
  refine wa_aload_n C 0 6 dX12_fault_5 rfl rfl ?_
  refine wa_get C 9 0 0 10 dX12_fault_6 rfl iX12 q1459 rfl (Nat.le_of_ble_eq_true rfl) rfl rfl rfl ?_
  cases hf
  exact wa_iret C dX12_fault_9 rfl rfl
def f_X12_keeps0_L52 : Nat → Int32 → MS → Option (MS)
  | 0, _, _ => none
  | n + 1, l1, z0 => (if (86 : Int32) ≤ l1 then bnd (upd z0.1 36 ((z0.1 36) + (1 : Int32)), z0.2) (fun y3 => some (y3)) else grd (vi l1 172) (grd (vi (((86 : Int32) * (z0.1 36)) + l1) 3440) (bnd (z0.1, z0.2.1, uA z0.2.2 11 ((((86 : Int32) * (z0.1 36)) + l1)).toNatClampNeg (z0.2.2 10 (l1).toNatClampNeg)) (fun y6 => bnd (l1 + 1) (fun x7 => f_X12_keeps0_L52 n x7 y6)))))
def f_X12_keeps0_L12 : Nat → Int32 → MS → Option (MS)
  | 0, _, _ => none
  | n + 1, l1, z0 => (if (3440 : Int32) ≤ l1 then bnd (upd z0.1 36 ((z0.1 36) - (1 : Int32)), z0.2) (fun y9 => f_X12_keeps0_L52 FUEL (0 : Int32) y9) else grd (vi l1 3440) (grd (vi (l1 - (86 : Int32)) 3440) (bnd (z0.1, z0.2.1, uA z0.2.2 11 ((l1 - (86 : Int32))).toNatClampNeg (z0.2.2 11 (l1).toNatClampNeg)) (fun y12 => bnd (l1 + 1) (fun x13 => f_X12_keeps0_L12 n x13 y12)))))
def f_X12_keeps0 (v : MS) : Option (MS) := (if (v.1 36) = (40 : Int32) then f_X12_keeps0_L12 FUEL (86 : Int32) v else f_X12_keeps0_L52 FUEL (0 : Int32) v)
set_option maxRecDepth 20000 in
theorem w_X12_keeps0_L52 {p : Program} {l : Launch} {e : Env} {s : State} {m : MethodId} {args : Array Value} {below : List Frame} {meth : Method} {c : Code} {D : va_G} {A : Nat → Prop} {dT : Nat → ClassId} {a : Nat → Nat} {res : MS} (C : Cx p s m args meth c cX12_keeps0 2 RX12 none D A dT) : ∀ (n : Nat) (l1 : Int32) (z0 : MS), f_X12_keeps0_L52 n l1 z0 = some res → WA p l e ({ frames := 0, cells := 0, slots := 0, locals := 0 } : Room) s m args below meth c (MQ below (QV D dT A ([wM dT a res])) args s 0 0 A) D A 0 0 2 52 ([wM dT a z0]) [(0, .ref (a 0)), (1, .int l1)] [] := by
  intro n
  induction n with
  | zero => intro l1 z0 hf; cases hf
  | succ n ih =>
    intro l1 z0 hf
    unfold f_X12_keeps0_L52 at hf
    refine wa_iload_n C 1 53 dX12_keeps0_52 rfl rfl ?_
    refine wa_bipush (v := 86) C 55 dX12_keeps0_53 rfl rfl ?_
    refine wa_icmp_ge C 84 58 dX12_keeps0_55 rfl rfl (fun c2 => ?_) (fun c2 => ?_)
    · replace hf := ite_t hf c2
      refine wa_aload_n C 0 85 dX12_keeps0_84 rfl rfl ?_
      refine wa_dup C 86 dX12_keeps0_85 rfl rfl ?_
      refine wa_get C 89 0 0 36 dX12_keeps0_86 rfl iX12 q1485 rfl (Nat.le_of_ble_eq_true rfl) rfl rfl rfl ?_
      refine wa_iconst (v := 1) C 90 dX12_keeps0_89 rfl rfl ?_
      refine wa_iadd C 91 dX12_keeps0_90 rfl ?_
      obtain ⟨y3, ey3, hf⟩ := bnd_ex hf
      refine wa_put (ws' := [wM dT a y3]) C 94 0 0 36 tyX12 dX12_keeps0_91 rfl iX12 tyX12_ok nmX12 q1485 rfl (Nat.le_of_ble_eq_true rfl) rfl rfl rfl rfl rfl (Nat.le_of_ble_eq_true rfl) (by rw [ey3]; rfl) ?_
      cases hf
      exact wa_vret C dX12_keeps0_94 rfl
    · replace hf := ite_f hf c2
      refine wa_aload_n C 0 59 dX12_keeps0_58 rfl rfl ?_
      refine wa_get C 62 0 0 35 dX12_keeps0_59 rfl iX12 q1484 rfl (Nat.le_of_ble_eq_true rfl) rfl rfl rfl ?_
      refine wa_bipush (v := 86) C 64 dX12_keeps0_62 rfl rfl ?_
      refine wa_aload_n C 0 65 dX12_keeps0_64 rfl rfl ?_
      refine wa_get C 68 0 0 36 dX12_keeps0_65 rfl iX12 q1485 rfl (Nat.le_of_ble_eq_true rfl) rfl rfl rfl ?_
      refine wa_imul C 69 dX12_keeps0_68 rfl ?_
      refine wa_iload_n C 1 70 dX12_keeps0_69 rfl rfl ?_
      refine wa_iadd C 71 dX12_keeps0_70 rfl ?_
      refine wa_aload_n C 0 72 dX12_keeps0_71 rfl rfl ?_
      refine wa_get C 75 0 0 34 dX12_keeps0_72 rfl iX12 q1483 rfl (Nat.le_of_ble_eq_true rfl) rfl rfl rfl ?_
      refine wa_iload_n C 1 76 dX12_keeps0_75 rfl rfl ?_
      obtain ⟨g4, hf⟩ := grd_ex hf
      refine wa_iald C 77 0 10 dX12_keeps0_76 rfl rfl rfl (vi_in g4) ?_
      obtain ⟨g5, hf⟩ := grd_ex hf
      obtain ⟨y6, ey6, hf⟩ := bnd_ex hf
      refine wa_iast (ws' := [wM dT a y6]) C 78 0 11 dX12_keeps0_77 rfl rfl rfl (vi_in g5) (by rw [ey6]; rfl) ?_
      obtain ⟨x7, ex7, hf⟩ := bnd_ex hf
      refine wa_iinc (v := x7) (lv' := [(0, .ref (a 0)), (1, .int x7)]) C 1 [1, 0] 81 dX12_keeps0_78 rfl rfl (by rw [ex7]; rfl) (Nat.le_of_ble_eq_true rfl) rfl ?_
      refine wa_goto C 52 dX12_keeps0_81 rfl ?_
      exact ih x7 y6 hf
set_option maxRecDepth 20000 in
theorem w_X12_keeps0_L12 {p : Program} {l : Launch} {e : Env} {s : State} {m : MethodId} {args : Array Value} {below : List Frame} {meth : Method} {c : Code} {D : va_G} {A : Nat → Prop} {dT : Nat → ClassId} {a : Nat → Nat} {res : MS} (C : Cx p s m args meth c cX12_keeps0 2 RX12 none D A dT) : ∀ (n : Nat) (l1 : Int32) (z0 : MS), f_X12_keeps0_L12 n l1 z0 = some res → WA p l e ({ frames := 0, cells := 0, slots := 0, locals := 0 } : Room) s m args below meth c (MQ below (QV D dT A ([wM dT a res])) args s 0 0 A) D A 0 0 2 12 ([wM dT a z0]) [(0, .ref (a 0)), (1, .int l1)] [] := by
  intro n
  induction n with
  | zero => intro l1 z0 hf; cases hf
  | succ n ih =>
    intro l1 z0 hf
    unfold f_X12_keeps0_L12 at hf
    refine wa_iload_n C 1 13 dX12_keeps0_12 rfl rfl ?_
    refine wa_sipush (v := 3440) C 16 dX12_keeps0_13 rfl rfl ?_
    refine wa_icmp_ge C 40 19 dX12_keeps0_16 rfl rfl (fun c8 => ?_) (fun c8 => ?_)
    · replace hf := ite_t hf c8
      refine wa_aload_n C 0 41 dX12_keeps0_40 rfl rfl ?_
      refine wa_dup C 42 dX12_keeps0_41 rfl rfl ?_
      refine wa_get C 45 0 0 36 dX12_keeps0_42 rfl iX12 q1485 rfl (Nat.le_of_ble_eq_true rfl) rfl rfl rfl ?_
      refine wa_iconst (v := 1) C 46 dX12_keeps0_45 rfl rfl ?_
      refine wa_isub C 47 dX12_keeps0_46 rfl ?_
      obtain ⟨y9, ey9, hf⟩ := bnd_ex hf
      refine wa_put (ws' := [wM dT a y9]) C 50 0 0 36 tyX12 dX12_keeps0_47 rfl iX12 tyX12_ok nmX12 q1485 rfl (Nat.le_of_ble_eq_true rfl) rfl rfl rfl rfl rfl (Nat.le_of_ble_eq_true rfl) (by rw [ey9]; rfl) ?_
      refine wa_iconst (v := 0) C 51 dX12_keeps0_50 rfl rfl ?_
      refine wa_istore_n (lv' := [(0, .ref (a 0)), (1, .int (0 : Int32))]) C [1, 0] 52 dX12_keeps0_51 rfl (Nat.le_of_ble_eq_true rfl) rfl ?_
      exact w_X12_keeps0_L52 C FUEL (0 : Int32) y9 hf
    · replace hf := ite_f hf c8
      refine wa_aload_n C 0 20 dX12_keeps0_19 rfl rfl ?_
      refine wa_get C 23 0 0 35 dX12_keeps0_20 rfl iX12 q1484 rfl (Nat.le_of_ble_eq_true rfl) rfl rfl rfl ?_
      refine wa_iload_n C 1 24 dX12_keeps0_23 rfl rfl ?_
      refine wa_bipush (v := 86) C 26 dX12_keeps0_24 rfl rfl ?_
      refine wa_isub C 27 dX12_keeps0_26 rfl ?_
      refine wa_aload_n C 0 28 dX12_keeps0_27 rfl rfl ?_
      refine wa_get C 31 0 0 35 dX12_keeps0_28 rfl iX12 q1484 rfl (Nat.le_of_ble_eq_true rfl) rfl rfl rfl ?_
      refine wa_iload_n C 1 32 dX12_keeps0_31 rfl rfl ?_
      obtain ⟨g10, hf⟩ := grd_ex hf
      refine wa_iald C 33 0 11 dX12_keeps0_32 rfl rfl rfl (vi_in g10) ?_
      obtain ⟨g11, hf⟩ := grd_ex hf
      obtain ⟨y12, ey12, hf⟩ := bnd_ex hf
      refine wa_iast (ws' := [wM dT a y12]) C 34 0 11 dX12_keeps0_33 rfl rfl rfl (vi_in g11) (by rw [ey12]; rfl) ?_
      obtain ⟨x13, ex13, hf⟩ := bnd_ex hf
      refine wa_iinc (v := x13) (lv' := [(0, .ref (a 0)), (1, .int x13)]) C 1 [1, 0] 37 dX12_keeps0_34 rfl rfl (by rw [ex13]; rfl) (Nat.le_of_ble_eq_true rfl) rfl ?_
      refine wa_goto C 12 dX12_keeps0_37 rfl ?_
      exact ih x13 y12 hf
set_option maxRecDepth 20000 in
theorem c_X12_keeps0 {l : Launch} {D : va_G} {dT : Nat → ClassId} {a : Nat → Nat} {v : MS} {res : MS} (hf : f_X12_keeps0 v = some res) : CTv l yX12_keeps0 cX12_keeps0 2 none ({ frames := 0, cells := 0, slots := 0, locals := 0 } : Room) D dT [.ref (a 0)] ([wM dT a v]) ([wM dT a res]) := by
  refine CTv.of (by decide) (Nat.le_of_ble_eq_true rfl) rfl ?_
  intro p e s m args below meth c A C
  unfold f_X12_keeps0 at hf
  refine wa_aload_n C 0 1 dX12_keeps0_0 rfl rfl ?_
  refine wa_get C 4 0 0 36 dX12_keeps0_1 rfl iX12 q1485 rfl (Nat.le_of_ble_eq_true rfl) rfl rfl rfl ?_
  refine wa_bipush (v := 40) C 6 dX12_keeps0_4 rfl rfl ?_
  refine wa_icmp_ne C 50 9 dX12_keeps0_6 rfl rfl (fun c1 => ?_) (fun c1 => ?_)
  · replace hf := ite_f hf c1
    refine wa_iconst (v := 0) C 51 dX12_keeps0_50 rfl rfl ?_
    refine wa_istore_n (lv' := [(0, .ref (a 0)), (1, .int (0 : Int32))]) C [1, 0] 52 dX12_keeps0_51 rfl (Nat.le_of_ble_eq_true rfl) rfl ?_
    exact w_X12_keeps0_L52 C FUEL (0 : Int32) v hf
  · replace hf := ite_t hf c1
    refine wa_bipush (v := 86) C 11 dX12_keeps0_9 rfl rfl ?_
    refine wa_istore_n (lv' := [(0, .ref (a 0)), (1, .int (86 : Int32))]) C [1, 0] 12 dX12_keeps0_11 rfl (Nat.le_of_ble_eq_true rfl) rfl ?_
    exact w_X12_keeps0_L12 C FUEL (86 : Int32) v hf
def f_X12_refuses (v : MS) (p0 : Int32) : Option (Int32 × MS) := grd (vi p0 3) (grd (vi p0 3) (bnd (v.1, v.2.1, uA v.2.2 4 (p0).toNatClampNeg ((v.2.2 4 (p0).toNatClampNeg) + (1 : Int32))) (fun y3 => some ((-1 : Int32), y3))))
set_option maxRecDepth 20000 in
theorem c_X12_refuses {l : Launch} {D : va_G} {dT : Nat → ClassId} {a : Nat → Nat} {v : MS} {p0 : Int32} {res : Int32 × MS} (hf : f_X12_refuses v p0 = some res) : CTi l yX12_refuses cX12_refuses 2 (some .int) ({ frames := 0, cells := 0, slots := 0, locals := 0 } : Room) D dT [.ref (a 0), .int p0] ([wM dT a v]) ([wM dT a res.2]) res.1 := by
  refine CTi.of (by decide) (Nat.le_of_ble_eq_true rfl) rfl ?_
  intro p e s m args below meth c A C
  unfold f_X12_refuses at hf
  refine wa_aload_n C 0 1 dX12_refuses_0 rfl rfl ?_
  refine wa_get C 4 0 0 11 dX12_refuses_1 rfl iX12 q1460 rfl (Nat.le_of_ble_eq_true rfl) rfl rfl rfl ?_
  refine wa_iload_n C 1 5 dX12_refuses_4 rfl rfl ?_
  refine wa_dup2 C 6 dX12_refuses_5 rfl rfl rfl ?_
  obtain ⟨g1, hf⟩ := grd_ex hf
  refine wa_iald C 7 0 4 dX12_refuses_6 rfl rfl rfl (vi_in g1) ?_
  refine wa_iconst (v := 1) C 8 dX12_refuses_7 rfl rfl ?_
  refine wa_iadd C 9 dX12_refuses_8 rfl ?_
  obtain ⟨g2, hf⟩ := grd_ex hf
  obtain ⟨y3, ey3, hf⟩ := bnd_ex hf
  refine wa_iast (ws' := [wM dT a y3]) C 10 0 4 dX12_refuses_9 rfl rfl rfl (vi_in g2) (by rw [ey3]; rfl) ?_
  refine wa_iconst (v := (-1)) C 11 dX12_refuses_10 rfl rfl ?_
  cases hf
  exact wa_iret C dX12_refuses_11 rfl rfl
def f_X12_undo_L26 : Nat → Int32 → MS → Option (Int32 × MS)
  | 0, _, _ => none
  | n + 1, l1, z0 => (if (86 : Int32) ≤ l1 then some ((z0.1 36), z0) else grd (vi (((86 : Int32) * (z0.1 36)) + l1) 3440) (grd (vi l1 172) (bnd (z0.1, z0.2.1, uA z0.2.2 10 (l1).toNatClampNeg (z0.2.2 11 ((((86 : Int32) * (z0.1 36)) + l1)).toNatClampNeg)) (fun y7 => bnd (l1 + 1) (fun x8 => f_X12_undo_L26 n x8 y7)))))
def f_X12_undo (v : MS) : Option (Int32 × MS) := bnd (upd v.1 0 (0 : Int32), v.2) (fun y1 => (if (y1.1 36) = 0 then some ((-1 : Int32), y1) else bnd (upd y1.1 36 ((y1.1 36) - (1 : Int32)), y1.2) (fun y3 => f_X12_undo_L26 FUEL (0 : Int32) y3)))
set_option maxRecDepth 20000 in
theorem w_X12_undo_L26 {p : Program} {l : Launch} {e : Env} {s : State} {m : MethodId} {args : Array Value} {below : List Frame} {meth : Method} {c : Code} {D : va_G} {A : Nat → Prop} {dT : Nat → ClassId} {a : Nat → Nat} {res : Int32 × MS} (C : Cx p s m args meth c cX12_undo 2 RX12 (some .int) D A dT) : ∀ (n : Nat) (l1 : Int32) (z0 : MS), f_X12_undo_L26 n l1 z0 = some res → WA p l e ({ frames := 0, cells := 0, slots := 0, locals := 0 } : Room) s m args below meth c (MQ below (QI D dT A ([wM dT a res.2]) res.1) args s 0 0 A) D A 0 0 2 26 ([wM dT a z0]) [(0, .ref (a 0)), (1, .int l1)] [] := by
  intro n
  induction n with
  | zero => intro l1 z0 hf; cases hf
  | succ n ih =>
    intro l1 z0 hf
    unfold f_X12_undo_L26 at hf
    refine wa_iload_n C 1 27 dX12_undo_26 rfl rfl ?_
    refine wa_bipush (v := 86) C 29 dX12_undo_27 rfl rfl ?_
    refine wa_icmp_ge C 58 32 dX12_undo_29 rfl rfl (fun c4 => ?_) (fun c4 => ?_)
    · replace hf := ite_t hf c4
      refine wa_aload_n C 0 59 dX12_undo_58 rfl rfl ?_
      refine wa_get C 62 0 0 36 dX12_undo_59 rfl iX12 q1485 rfl (Nat.le_of_ble_eq_true rfl) rfl rfl rfl ?_
      cases hf
      exact wa_iret C dX12_undo_62 rfl rfl
    · replace hf := ite_f hf c4
      refine wa_aload_n C 0 33 dX12_undo_32 rfl rfl ?_
      refine wa_get C 36 0 0 34 dX12_undo_33 rfl iX12 q1483 rfl (Nat.le_of_ble_eq_true rfl) rfl rfl rfl ?_
      refine wa_iload_n C 1 37 dX12_undo_36 rfl rfl ?_
      refine wa_aload_n C 0 38 dX12_undo_37 rfl rfl ?_
      refine wa_get C 41 0 0 35 dX12_undo_38 rfl iX12 q1484 rfl (Nat.le_of_ble_eq_true rfl) rfl rfl rfl ?_
      refine wa_bipush (v := 86) C 43 dX12_undo_41 rfl rfl ?_
      refine wa_aload_n C 0 44 dX12_undo_43 rfl rfl ?_
      refine wa_get C 47 0 0 36 dX12_undo_44 rfl iX12 q1485 rfl (Nat.le_of_ble_eq_true rfl) rfl rfl rfl ?_
      refine wa_imul C 48 dX12_undo_47 rfl ?_
      refine wa_iload_n C 1 49 dX12_undo_48 rfl rfl ?_
      refine wa_iadd C 50 dX12_undo_49 rfl ?_
      obtain ⟨g5, hf⟩ := grd_ex hf
      refine wa_iald C 51 0 11 dX12_undo_50 rfl rfl rfl (vi_in g5) ?_
      obtain ⟨g6, hf⟩ := grd_ex hf
      obtain ⟨y7, ey7, hf⟩ := bnd_ex hf
      refine wa_iast (ws' := [wM dT a y7]) C 52 0 10 dX12_undo_51 rfl rfl rfl (vi_in g6) (by rw [ey7]; rfl) ?_
      obtain ⟨x8, ex8, hf⟩ := bnd_ex hf
      refine wa_iinc (v := x8) (lv' := [(0, .ref (a 0)), (1, .int x8)]) C 1 [1, 0] 55 dX12_undo_52 rfl rfl (by rw [ex8]; rfl) (Nat.le_of_ble_eq_true rfl) rfl ?_
      refine wa_goto C 26 dX12_undo_55 rfl ?_
      exact ih x8 y7 hf
set_option maxRecDepth 20000 in
theorem c_X12_undo {l : Launch} {D : va_G} {dT : Nat → ClassId} {a : Nat → Nat} {v : MS} {res : Int32 × MS} (hf : f_X12_undo v = some res) : CTi l yX12_undo cX12_undo 2 (some .int) ({ frames := 0, cells := 0, slots := 0, locals := 0 } : Room) D dT [.ref (a 0)] ([wM dT a v]) ([wM dT a res.2]) res.1 := by
  refine CTi.of (by decide) (Nat.le_of_ble_eq_true rfl) rfl ?_
  intro p e s m args below meth c A C
  unfold f_X12_undo at hf
  refine wa_aload_n C 0 1 dX12_undo_0 rfl rfl ?_
  refine wa_iconst (v := 0) C 2 dX12_undo_1 rfl rfl ?_
  obtain ⟨y1, ey1, hf⟩ := bnd_ex hf
  refine wa_put (ws' := [wM dT a y1]) C 5 0 0 0 tyX12 dX12_undo_2 rfl iX12 tyX12_ok nmX12 q1449 rfl (Nat.le_of_ble_eq_true rfl) rfl rfl rfl rfl rfl (Nat.le_of_ble_eq_true rfl) (by rw [ey1]; rfl) ?_
  refine wa_aload_n C 0 6 dX12_undo_5 rfl rfl ?_
  refine wa_get C 9 0 0 36 dX12_undo_6 rfl iX12 q1485 rfl (Nat.le_of_ble_eq_true rfl) rfl rfl rfl ?_
  refine wa_if_ne C 14 12 dX12_undo_9 rfl rfl (fun c2 => ?_) (fun c2 => ?_)
  · replace hf := ite_f hf c2
    refine wa_aload_n C 0 15 dX12_undo_14 rfl rfl ?_
    refine wa_dup C 16 dX12_undo_15 rfl rfl ?_
    refine wa_get C 19 0 0 36 dX12_undo_16 rfl iX12 q1485 rfl (Nat.le_of_ble_eq_true rfl) rfl rfl rfl ?_
    refine wa_iconst (v := 1) C 20 dX12_undo_19 rfl rfl ?_
    refine wa_isub C 21 dX12_undo_20 rfl ?_
    obtain ⟨y3, ey3, hf⟩ := bnd_ex hf
    refine wa_put (ws' := [wM dT a y3]) C 24 0 0 36 tyX12 dX12_undo_21 rfl iX12 tyX12_ok nmX12 q1485 rfl (Nat.le_of_ble_eq_true rfl) rfl rfl rfl rfl rfl (Nat.le_of_ble_eq_true rfl) (by rw [ey3]; rfl) ?_
    refine wa_iconst (v := 0) C 25 dX12_undo_24 rfl rfl ?_
    refine wa_istore_n (lv' := [(0, .ref (a 0)), (1, .int (0 : Int32))]) C [1, 0] 26 dX12_undo_25 rfl (Nat.le_of_ble_eq_true rfl) rfl ?_
    exact w_X12_undo_L26 C FUEL (0 : Int32) y3 hf
  · replace hf := ite_t hf c2
    refine wa_iconst (v := (-1)) C 13 dX12_undo_12 rfl rfl ?_
    cases hf
    exact wa_iret C dX12_undo_13 rfl rfl
def f_X12_tries_L31 : Nat → Int32 → MS → Option (MS)
  | 0, _, _ => none
  | n + 1, l1, z0 => (if (12 : Int32) ≤ l1 then some (z0) else grd (vi ((160 : Int32) + l1) 172) (bnd (z0.1, z0.2.1, uA z0.2.2 10 (((160 : Int32) + l1)).toNatClampNeg l1) (fun y4 => bnd (l1 + 1) (fun x5 => f_X12_tries_L31 n x5 y4))))
def f_X12_tries_L2 : Nat → Int32 → MS → Option (MS)
  | 0, _, _ => none
  | n + 1, l1, z0 => (if (86 : Int32) ≤ l1 then f_X12_tries_L31 FUEL (0 : Int32) z0 else grd (vi l1 172) (grd (vi ((86 : Int32) + l1) 172) (bnd (z0.1, z0.2.1, uA z0.2.2 10 (((86 : Int32) + l1)).toNatClampNeg (z0.2.2 10 (l1).toNatClampNeg)) (fun y8 => bnd (l1 + 1) (fun x9 => f_X12_tries_L2 n x9 y8)))))
def f_X12_tries (v : MS) : Option (MS) := f_X12_tries_L2 FUEL (0 : Int32) v
set_option maxRecDepth 20000 in
theorem w_X12_tries_L31 {p : Program} {l : Launch} {e : Env} {s : State} {m : MethodId} {args : Array Value} {below : List Frame} {meth : Method} {c : Code} {D : va_G} {A : Nat → Prop} {dT : Nat → ClassId} {a : Nat → Nat} {res : MS} (C : Cx p s m args meth c cX12_tries 2 RX12 none D A dT) : ∀ (n : Nat) (l1 : Int32) (z0 : MS), f_X12_tries_L31 n l1 z0 = some res → WA p l e ({ frames := 0, cells := 0, slots := 0, locals := 0 } : Room) s m args below meth c (MQ below (QV D dT A ([wM dT a res])) args s 0 0 A) D A 0 0 2 31 ([wM dT a z0]) [(0, .ref (a 0)), (1, .int l1)] [] := by
  intro n
  induction n with
  | zero => intro l1 z0 hf; cases hf
  | succ n ih =>
    intro l1 z0 hf
    unfold f_X12_tries_L31 at hf
    refine wa_iload_n C 1 32 dX12_tries_31 rfl rfl ?_
    refine wa_bipush (v := 12) C 34 dX12_tries_32 rfl rfl ?_
    refine wa_icmp_ge C 54 37 dX12_tries_34 rfl rfl (fun c2 => ?_) (fun c2 => ?_)
    · replace hf := ite_t hf c2
      cases hf
      exact wa_vret C dX12_tries_54 rfl
    · replace hf := ite_f hf c2
      refine wa_aload_n C 0 38 dX12_tries_37 rfl rfl ?_
      refine wa_get C 41 0 0 34 dX12_tries_38 rfl iX12 q1483 rfl (Nat.le_of_ble_eq_true rfl) rfl rfl rfl ?_
      refine wa_sipush (v := 160) C 44 dX12_tries_41 rfl rfl ?_
      refine wa_iload_n C 1 45 dX12_tries_44 rfl rfl ?_
      refine wa_iadd C 46 dX12_tries_45 rfl ?_
      refine wa_iload_n C 1 47 dX12_tries_46 rfl rfl ?_
      obtain ⟨g3, hf⟩ := grd_ex hf
      obtain ⟨y4, ey4, hf⟩ := bnd_ex hf
      refine wa_iast (ws' := [wM dT a y4]) C 48 0 10 dX12_tries_47 rfl rfl rfl (vi_in g3) (by rw [ey4]; rfl) ?_
      obtain ⟨x5, ex5, hf⟩ := bnd_ex hf
      refine wa_iinc (v := x5) (lv' := [(0, .ref (a 0)), (1, .int x5)]) C 1 [1, 0] 51 dX12_tries_48 rfl rfl (by rw [ex5]; rfl) (Nat.le_of_ble_eq_true rfl) rfl ?_
      refine wa_goto C 31 dX12_tries_51 rfl ?_
      exact ih x5 y4 hf
set_option maxRecDepth 20000 in
theorem w_X12_tries_L2 {p : Program} {l : Launch} {e : Env} {s : State} {m : MethodId} {args : Array Value} {below : List Frame} {meth : Method} {c : Code} {D : va_G} {A : Nat → Prop} {dT : Nat → ClassId} {a : Nat → Nat} {res : MS} (C : Cx p s m args meth c cX12_tries 2 RX12 none D A dT) : ∀ (n : Nat) (l1 : Int32) (z0 : MS), f_X12_tries_L2 n l1 z0 = some res → WA p l e ({ frames := 0, cells := 0, slots := 0, locals := 0 } : Room) s m args below meth c (MQ below (QV D dT A ([wM dT a res])) args s 0 0 A) D A 0 0 2 2 ([wM dT a z0]) [(0, .ref (a 0)), (1, .int l1)] [] := by
  intro n
  induction n with
  | zero => intro l1 z0 hf; cases hf
  | succ n ih =>
    intro l1 z0 hf
    unfold f_X12_tries_L2 at hf
    refine wa_iload_n C 1 3 dX12_tries_2 rfl rfl ?_
    refine wa_bipush (v := 86) C 5 dX12_tries_3 rfl rfl ?_
    refine wa_icmp_ge C 29 8 dX12_tries_5 rfl rfl (fun c1 => ?_) (fun c1 => ?_)
    · replace hf := ite_t hf c1
      refine wa_iconst (v := 0) C 30 dX12_tries_29 rfl rfl ?_
      refine wa_istore_n (lv' := [(0, .ref (a 0)), (1, .int (0 : Int32))]) C [1, 0] 31 dX12_tries_30 rfl (Nat.le_of_ble_eq_true rfl) rfl ?_
      exact w_X12_tries_L31 C FUEL (0 : Int32) z0 hf
    · replace hf := ite_f hf c1
      refine wa_aload_n C 0 9 dX12_tries_8 rfl rfl ?_
      refine wa_get C 12 0 0 34 dX12_tries_9 rfl iX12 q1483 rfl (Nat.le_of_ble_eq_true rfl) rfl rfl rfl ?_
      refine wa_bipush (v := 86) C 14 dX12_tries_12 rfl rfl ?_
      refine wa_iload_n C 1 15 dX12_tries_14 rfl rfl ?_
      refine wa_iadd C 16 dX12_tries_15 rfl ?_
      refine wa_aload_n C 0 17 dX12_tries_16 rfl rfl ?_
      refine wa_get C 20 0 0 34 dX12_tries_17 rfl iX12 q1483 rfl (Nat.le_of_ble_eq_true rfl) rfl rfl rfl ?_
      refine wa_iload_n C 1 21 dX12_tries_20 rfl rfl ?_
      obtain ⟨g6, hf⟩ := grd_ex hf
      refine wa_iald C 22 0 10 dX12_tries_21 rfl rfl rfl (vi_in g6) ?_
      obtain ⟨g7, hf⟩ := grd_ex hf
      obtain ⟨y8, ey8, hf⟩ := bnd_ex hf
      refine wa_iast (ws' := [wM dT a y8]) C 23 0 10 dX12_tries_22 rfl rfl rfl (vi_in g7) (by rw [ey8]; rfl) ?_
      obtain ⟨x9, ex9, hf⟩ := bnd_ex hf
      refine wa_iinc (v := x9) (lv' := [(0, .ref (a 0)), (1, .int x9)]) C 1 [1, 0] 26 dX12_tries_23 rfl rfl (by rw [ex9]; rfl) (Nat.le_of_ble_eq_true rfl) rfl ?_
      refine wa_goto C 2 dX12_tries_26 rfl ?_
      exact ih x9 y8 hf
set_option maxRecDepth 20000 in
theorem c_X12_tries {l : Launch} {D : va_G} {dT : Nat → ClassId} {a : Nat → Nat} {v : MS} {res : MS} (hf : f_X12_tries v = some res) : CTv l yX12_tries cX12_tries 2 none ({ frames := 0, cells := 0, slots := 0, locals := 0 } : Room) D dT [.ref (a 0)] ([wM dT a v]) ([wM dT a res]) := by
  refine CTv.of (by decide) (Nat.le_of_ble_eq_true rfl) rfl ?_
  intro p e s m args below meth c A C
  unfold f_X12_tries at hf
  refine wa_iconst (v := 0) C 1 dX12_tries_0 rfl rfl ?_
  refine wa_istore_n (lv' := [(0, .ref (a 0)), (1, .int (0 : Int32))]) C [1, 0] 2 dX12_tries_1 rfl (Nat.le_of_ble_eq_true rfl) rfl ?_
  exact w_X12_tries_L2 C FUEL (0 : Int32) v hf
