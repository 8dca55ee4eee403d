theorem kv_X2_87 : KV RX2 87 yX10_since cX10_since 2 (some .int) 1 := KV.mk q486 q487 q488 q3 q489 ⟨by decide, by decide, by decide +kernel⟩
def f_X2_worthOf (v : Ob) (v_p : Ob) (v_k : Ob) (v0 : Ob) (p1 : Int32) : Option (Int32 × Ob × Ob) := grd (vi p1 12) (grd (vi (0 : Int32) 9) (bnd (v.1, uA v.2 4 ((0 : Int32)).toNatClampNeg (v0.2 1 (p1).toNatClampNeg)) (fun y3 => grd (vi p1 12) (grd (vi (1 : Int32) 9) (bnd (y3.1, uA y3.2 4 ((1 : Int32)).toNatClampNeg (v0.2 3 (p1).toNatClampNeg)) (fun y6 => (f_X10_since v0 p1).bind (fun q7 => grd (vi (2 : Int32) 9) (bnd (y6.1, uA y6.2 4 ((2 : Int32)).toNatClampNeg q7) (fun y9 => grd (vi p1 12) (grd (vi (3 : Int32) 9) (bnd (y9.1, uA y9.2 4 ((3 : Int32)).toNatClampNeg (v0.2 5 (p1).toNatClampNeg)) (fun y12 => grd (vi p1 12) (grd (vi (v0.2 2 (p1).toNatClampNeg) 13) (grd (vi (4 : Int32) 9) (bnd (y12.1, uA y12.2 4 ((4 : Int32)).toNatClampNeg (v0.2 6 ((v0.2 2 (p1).toNatClampNeg)).toNatClampNeg)) (fun y16 => grd (vi (5 : Int32) 9) (bnd (y16.1, uA y16.2 4 ((5 : Int32)).toNatClampNeg (v0.1 2)) (fun y18 => (f_X7_of v_p (y18.2 4) 9).bind (fun q19 => some (q19.1, y18, q19.2))))))))))))))))))))
set_option maxRecDepth 20000 in
theorem c_X2_worthOf {l : Launch} {D : va_G} {dT : Nat → ClassId} {a : Nat → Nat} {a_p : Nat → Nat} {a_k : Nat → Nat} {a0 : Nat → Nat} {v : Ob} {v_p : Ob} {v_k : Ob} {v0 : Ob} {p1 : Int32} {res : Int32 × Ob × Ob} (hf : f_X2_worthOf v v_p v_k v0 p1 = some res) : CTi l yX2_worthOf cX2_worthOf 3 (some .int) ({ frames := 1, cells := 0, slots := 0, locals := 27 } : Room) D dT [.ref (a 0), .ref (a0 0), .int p1] ([wD dT a (a_p 0) (a_k 0) v, wR dT a_p v_p, wR dT a_k v_k, wV dT a0 v0]) ([wD dT a (a_p 0) (a_k 0) res.2.1, wR dT a_p res.2.2, wR dT a_k v_k, wV dT a0 v0]) res.1 := by
  refine CTi.of (by decide) (Nat.le_of_ble_eq_true rfl) rfl ?_
  intro p e s m args below meth c A C
  unfold f_X2_worthOf at hf
  refine wa_aload_n C 0 1 dX2_worthOf_0 rfl rfl ?_
  refine wa_get C 4 0 0 5 dX2_worthOf_1 rfl iX2 q212 rfl (Nat.le_of_ble_eq_true rfl) rfl rfl rfl ?_
  refine wa_iconst (v := 0) C 5 dX2_worthOf_4 rfl rfl ?_
  refine wa_aload_n C 1 6 dX2_worthOf_5 rfl rfl ?_
  refine wa_get C 9 3 0 3 dX2_worthOf_6 rfl iX10 q66 rfl (Nat.le_of_ble_eq_true rfl) rfl rfl rfl ?_
  refine wa_iload_n C 2 10 dX2_worthOf_9 rfl rfl ?_
  obtain ⟨g1, hf⟩ := grd_ex hf
  refine wa_iald C 11 3 1 dX2_worthOf_10 rfl rfl rfl (vi_in g1) ?_
  obtain ⟨g2, hf⟩ := grd_ex hf
  obtain ⟨y3, ey3, hf⟩ := bnd_ex hf
  refine wa_iast (ws' := [wD dT a (a_p 0) (a_k 0) y3, wR dT a_p v_p, wR dT a_k v_k, wV dT a0 v0]) C 12 0 4 dX2_worthOf_11 rfl rfl rfl (vi_in g2) (by rw [ey3]; rfl) ?_
  refine wa_aload_n C 0 13 dX2_worthOf_12 rfl rfl ?_
  refine wa_get C 16 0 0 5 dX2_worthOf_13 rfl iX2 q212 rfl (Nat.le_of_ble_eq_true rfl) rfl rfl rfl ?_
  refine wa_iconst (v := 1) C 17 dX2_worthOf_16 rfl rfl ?_
  refine wa_aload_n C 1 18 dX2_worthOf_17 rfl rfl ?_
  refine wa_get C 21 3 0 5 dX2_worthOf_18 rfl iX10 q79 rfl (Nat.le_of_ble_eq_true rfl) rfl rfl rfl ?_
  refine wa_iload_n C 2 22 dX2_worthOf_21 rfl rfl ?_
  obtain ⟨g4, hf⟩ := grd_ex hf
  refine wa_iald C 23 3 3 dX2_worthOf_22 rfl rfl rfl (vi_in g4) ?_
  obtain ⟨g5, hf⟩ := grd_ex hf
  obtain ⟨y6, ey6, hf⟩ := bnd_ex hf
  refine wa_iast (ws' := [wD dT a (a_p 0) (a_k 0) y6, wR dT a_p v_p, wR dT a_k v_k, wV dT a0 v0]) C 24 0 4 dX2_worthOf_23 rfl rfl rfl (vi_in g5) (by rw [ey6]; rfl) ?_
  refine wa_aload_n C 0 25 dX2_worthOf_24 rfl rfl ?_
  refine wa_get C 28 0 0 5 dX2_worthOf_25 rfl iX2 q212 rfl (Nat.le_of_ble_eq_true rfl) rfl rfl rfl ?_
  refine wa_iconst (v := 2) C 29 dX2_worthOf_28 rfl rfl ?_
  refine wa_aload_n C 1 30 dX2_worthOf_29 rfl rfl ?_
  refine wa_iload_n C 2 31 dX2_worthOf_30 rfl rfl ?_
  obtain ⟨q7, hq7, hf⟩ := bind_ex hf
  refine wa_callVi (b1 := 3) (q1 := 0) (ci := 10) (ws' := [wD dT a (a_p 0) (a_k 0) y6, wR dT a_p v_p, wR dT a_k v_k, wV dT a0 v0]) (As := [.int p1]) C 34 dX2_worthOf_31 rfl kv_X2_87 (c_X10_since hq7) ⟨rfl, rfl⟩ ⟨Nat.le_of_ble_eq_true rfl, Nat.le_of_ble_eq_true rfl⟩ rfl rfl rfl [3] [0, 1, 2] [0, 1, 2, 3] rfl rfl rfl rfl (by decide) rfl rfl rfl rfl ⟨Nat.zero_le _, Nat.zero_le _⟩ (Nat.le_of_ble_eq_true rfl) ?_
  obtain ⟨g8, hf⟩ := grd_ex hf
  obtain ⟨y9, ey9, hf⟩ := bnd_ex hf
  refine wa_iast (ws' := [wD dT a (a_p 0) (a_k 0) y9, wR dT a_p v_p, wR dT a_k v_k, wV dT a0 v0]) C 35 0 4 dX2_worthOf_34 rfl rfl rfl (vi_in g8) (by rw [ey9]; rfl) ?_
  refine wa_aload_n C 0 36 dX2_worthOf_35 rfl rfl ?_
  refine wa_get C 39 0 0 5 dX2_worthOf_36 rfl iX2 q212 rfl (Nat.le_of_ble_eq_true rfl) rfl rfl rfl ?_
  refine wa_iconst (v := 3) C 40 dX2_worthOf_39 rfl rfl ?_
  refine wa_aload_n C 1 41 dX2_worthOf_40 rfl rfl ?_
  refine wa_get C 44 3 0 7 dX2_worthOf_41 rfl iX10 q84 rfl (Nat.le_of_ble_eq_true rfl) rfl rfl rfl ?_
  refine wa_iload_n C 2 45 dX2_worthOf_44 rfl rfl ?_
  obtain ⟨g10, hf⟩ := grd_ex hf
  refine wa_iald C 46 3 5 dX2_worthOf_45 rfl rfl rfl (vi_in g10) ?_
  obtain ⟨g11, hf⟩ := grd_ex hf
  obtain ⟨y12, ey12, hf⟩ := bnd_ex hf
  refine wa_iast (ws' := [wD dT a (a_p 0) (a_k 0) y12, wR dT a_p v_p, wR dT a_k v_k, wV dT a0 v0]) C 47 0 4 dX2_worthOf_46 rfl rfl rfl (vi_in g11) (by rw [ey12]; rfl) ?_
  refine wa_aload_n C 0 48 dX2_worthOf_47 rfl rfl ?_
  refine wa_get C 51 0 0 5 dX2_worthOf_48 rfl iX2 q212 rfl (Nat.le_of_ble_eq_true rfl) rfl rfl rfl ?_
  refine wa_iconst (v := 4) C 52 dX2_worthOf_51 rfl rfl ?_
  refine wa_aload_n C 1 53 dX2_worthOf_52 rfl rfl ?_
  refine wa_get C 56 3 0 8 dX2_worthOf_53 rfl iX10 q89 rfl (Nat.le_of_ble_eq_true rfl) rfl rfl rfl ?_
  refine wa_aload_n C 1 57 dX2_worthOf_56 rfl rfl ?_
  refine wa_get C 60 3 0 4 dX2_worthOf_57 rfl iX10 q73 rfl (Nat.le_of_ble_eq_true rfl) rfl rfl rfl ?_
  refine wa_iload_n C 2 61 dX2_worthOf_60 rfl rfl ?_
  obtain ⟨g13, hf⟩ := grd_ex hf
  refine wa_iald C 62 3 2 dX2_worthOf_61 rfl rfl rfl (vi_in g13) ?_
  obtain ⟨g14, hf⟩ := grd_ex hf
  refine wa_iald C 63 3 6 dX2_worthOf_62 rfl rfl rfl (vi_in g14) ?_
  obtain ⟨g15, hf⟩ := grd_ex hf
  obtain ⟨y16, ey16, hf⟩ := bnd_ex hf
  refine wa_iast (ws' := [wD dT a (a_p 0) (a_k 0) y16, wR dT a_p v_p, wR dT a_k v_k, wV dT a0 v0]) C 64 0 4 dX2_worthOf_63 rfl rfl rfl (vi_in g15) (by rw [ey16]; rfl) ?_
  refine wa_aload_n C 0 65 dX2_worthOf_64 rfl rfl ?_
  refine wa_get C 68 0 0 5 dX2_worthOf_65 rfl iX2 q212 rfl (Nat.le_of_ble_eq_true rfl) rfl rfl rfl ?_
  refine wa_iconst (v := 5) C 69 dX2_worthOf_68 rfl rfl ?_
  refine wa_aload_n C 1 70 dX2_worthOf_69 rfl rfl ?_
  refine wa_get C 73 3 0 2 dX2_worthOf_70 rfl iX10 q62 rfl (Nat.le_of_ble_eq_true rfl) rfl rfl rfl ?_
  obtain ⟨g17, hf⟩ := grd_ex hf
  obtain ⟨y18, ey18, hf⟩ := bnd_ex hf
  refine wa_iast (ws' := [wD dT a (a_p 0) (a_k 0) y18, wR dT a_p v_p, wR dT a_k v_k, wV dT a0 v0]) C 74 0 4 dX2_worthOf_73 rfl rfl rfl (vi_in g17) (by rw [ey18]; rfl) ?_
  refine wa_aload_n C 0 75 dX2_worthOf_74 rfl rfl ?_
  refine wa_get C 78 0 0 0 dX2_worthOf_75 rfl iX2 q205 rfl (Nat.le_of_ble_eq_true rfl) rfl rfl rfl ?_
  refine wa_aload_n C 0 79 dX2_worthOf_78 rfl rfl ?_
  refine wa_get C 82 0 0 5 dX2_worthOf_79 rfl iX2 q212 rfl (Nat.le_of_ble_eq_true rfl) rfl rfl rfl ?_
  refine wa_open 0 4 rfl rfl ?_
  obtain ⟨q19, hq19, hf⟩ := bind_ex hf
  refine wa_callVi (b1 := 1) (q1 := 0) (ci := 7) (ws' := [(wD dT a (a_p 0) (a_k 0) y18).eraseIdx 4, wR dT a_p q19.2, wR dT a_k v_k, wV dT a0 v0, [(a 4, .inl (dT 0, 9, .inl (y18.2 4)))]]) (As := [.ref (a 4)]) C 85 dX2_worthOf_82 rfl kv_X2_94 (c_X7_of hq19) ⟨rfl, rfl⟩ ⟨Nat.le_of_ble_eq_true rfl, Nat.le_of_ble_eq_true rfl⟩ rfl rfl rfl [1, 4] [0, 2, 3] [0, 3, 1, 2, 4] rfl rfl rfl rfl (by decide) rfl rfl rfl rfl ⟨Nat.zero_le _, Nat.zero_le _⟩ (Nat.le_of_ble_eq_true rfl) ?_
  refine wa_close (ws := [(wD dT a (a_p 0) (a_k 0) y18).eraseIdx 4, wR dT a_p q19.2, wR dT a_k v_k, wV dT a0 v0]) (ws' := [wD dT a (a_p 0) (a_k 0) y18, wR dT a_p q19.2, wR dT a_k v_k, wV dT a0 v0]) 0 4 (wD dT a (a_p 0) (a_k 0) y18) rfl rfl rfl ?_
  cases hf
  exact wa_iret C dX2_worthOf_85 rfl rfl
theorem kv_X2_59 : KV RX2 59 yX2_keptIn cX2_keptIn 4 (some .int) 1 := KV.mk q467 q469 qs6 q6 q470 ⟨by decide, by decide, by decide +kernel⟩
theorem kv_X2_77 : KV RX2 77 yX2_worthOf cX2_worthOf 3 (some .int) 2 := KV.mk q482 q484 qs7 q6 q485 ⟨by decide, by decide, by decide +kernel⟩
def f_X2_choose_J157 (k31 : Int32 → Ob → Ob → Ob → Option (Ob × Ob × Ob)) (l2 : Int32) (l3 : Int32) (z3 : Ob) (l4 : Int32) (l5 : Int32) (l6 : Int32) (z0 : Ob) (z1 : Ob) (z2 : Ob) : Option (Ob × Ob × Ob) := grd (vi l5 13) (bnd (z0.1, uA z0.2 1 (l5).toNatClampNeg l4) (fun y16 => grd (vi l5 13) (bnd (y16.1, uA y16.2 2 (l5).toNatClampNeg l6) (fun y18 => bnd (l4 + 1) (fun x19 => k31 x19 y18 z1 z2)))))
def f_X2_choose_J99 (k31 : Int32 → Ob → Ob → Ob → Option (Ob × Ob × Ob)) (l2 : Int32) (l3 : Int32) (z3 : Ob) (l4 : Int32) (l5 : Int32) (t0 : Int32) (z0 : Ob) (z1 : Ob) (z2 : Ob) : Option (Ob × Ob × Ob) := grd (vi l5 13) (bnd (z0.2 1 (l5).toNatClampNeg) (fun x13 => (if x13 = (-1 : Int32) then f_X2_choose_J157 (k31) l2 l3 z3 l4 l5 t0 z0 z1 z2 else grd (vi l5 13) ((if (z0.2 2 (l5).toNatClampNeg) < t0 then f_X2_choose_J157 (k31) l2 l3 z3 l4 l5 t0 z0 z1 z2 else grd (vi l5 13) ((if t0 = (z0.2 2 (l5).toNatClampNeg) then grd (vi l4 12) (grd (vi x13 12) ((if (z3.2 3 (l4).toNatClampNeg) ≤ (z3.2 3 (x13).toNatClampNeg) then bnd (l4 + 1) (fun x28 => k31 x28 z0 z1 z2) else f_X2_choose_J157 (k31) l2 l3 z3 l4 l5 t0 z0 z1 z2))) else bnd (l4 + 1) (fun x24 => k31 x24 z0 z1 z2))))))))
def f_X2_choose_J98 (k31 : Int32 → Ob → Ob → Ob → Option (Ob × Ob × Ob)) (l2 : Int32) (l3 : Int32) (z3 : Ob) (l4 : Int32) (l5 : Int32) (z0 : Ob) (z1 : Ob) (z2 : Ob) : Option (Ob × Ob × Ob) := f_X2_choose_J99 (k31) l2 l3 z3 l4 l5 (0 : Int32) z0 z1 z2
def f_X2_choose_L31 (l2 : Int32) (l3 : Int32) (z3 : Ob) : Nat → Int32 → Ob → Ob → Ob → Option (Ob × Ob × Ob)
  | 0, _, _, _, _ => none
  | n + 1, l4, z0, z1, z2 => (if (z3.1 0) ≤ l4 then some (z0, z1, z2) else grd (vi l4 12) (bnd (z3.2 2 (l4).toNatClampNeg) (fun x6 => (if ((l3 >>> (x6 &&& 31)) &&& (1 : Int32)) = 0 then (if ((l2 >>> (l4 &&& 31)) &&& (1 : Int32)) = 0 then (if (z1.1 0) = 0 then f_X2_choose_J98 (f_X2_choose_L31 l2 l3 z3 n) l2 l3 z3 l4 x6 z0 z1 z2 else grd (vi x6 13) ((if (z3.2 6 (x6).toNatClampNeg) ≤ (1 : Int32) then f_X2_choose_J98 (f_X2_choose_L31 l2 l3 z3 n) l2 l3 z3 l4 x6 z0 z1 z2 else (f_X2_worthOf z0 z1 z2 z3 l4).bind (fun q31 => f_X2_choose_J99 (f_X2_choose_L31 l2 l3 z3 n) l2 l3 z3 l4 x6 q31.1 q31.2.1 q31.2.2 z2)))) else bnd (l4 + 1) (fun x10 => f_X2_choose_L31 l2 l3 z3 n x10 z0 z1 z2)) else bnd (l4 + 1) (fun x8 => f_X2_choose_L31 l2 l3 z3 n x8 z0 z1 z2)))))
def f_X2_choose_J19 (z3 : Ob) (l2 : Int32) (t0 : Int32) (z0 : Ob) (z1 : Ob) (z2 : Ob) : Option (Ob × Ob × Ob) := (f_J7_fill_53178 (z0.2 1) 13 (-1 : Int32)).bind (fun q2 => bnd (z0.1, sA z0.2 1 q2) (fun y3 => f_X2_choose_L31 l2 t0 z3 FUEL (0 : Int32) y3 z1 z2))
def f_X2_choose (v : Ob) (v_p : Ob) (v_k : Ob) (v0 : Ob) (p1 : Int32) : Option (Ob × Ob × Ob) := (if (v_k.1 0) = 0 then f_X2_choose_J19 v0 p1 (0 : Int32) v v_p v_k else (f_X2_keptIn v v_p v_k v0).bind (fun q32 => f_X2_choose_J19 v0 p1 q32.1 q32.2.1 v_p q32.2.2))
set_option maxRecDepth 20000 in
theorem w_X2_choose_J157 {p : Program} {l : Launch} {e : Env} {s : State} {m : MethodId} {args : Array Value} {below : List Frame} {meth : Method} {c : Code} {D : va_G} {A : Nat → Prop} {dT : Nat → ClassId} {a : Nat → Nat} {a_p : Nat → Nat} {a_k : Nat → Nat} {a0 : Nat → Nat} {res : Ob × Ob × Ob} {l2 : Int32} {l3 : Int32} {z3 : Ob} (C : Cx p s m args meth c cX2_choose 8 RX2 none D A dT) {k31 : Int32 → Ob → Ob → Ob → Option (Ob × Ob × Ob)} (hk31 : ∀ (l4 : Int32) (z0 : Ob) (z1 : Ob) (z2 : Ob), k31 l4 z0 z1 z2 = some res → WA p l e ({ frames := 2, cells := 0, slots := 0, locals := 50 } : Room) s m args below meth c (MQ below (QV D dT A ([wD dT a (a_p 0) (a_k 0) res.1, wR dT a_p res.2.1, wR dT a_k res.2.2, wV dT a0 z3])) args s 0 0 A) D A 0 0 8 31 ([wD dT a (a_p 0) (a_k 0) z0, wR dT a_p z1, wR dT a_k z2, wV dT a0 z3]) [(0, .ref (a 0)), (1, .ref (a0 0)), (2, .int l2), (3, .int l3), (4, .int l4)] []) : ∀ (l4 : Int32) (l5 : Int32) (l6 : Int32) (z0 : Ob) (z1 : Ob) (z2 : Ob), f_X2_choose_J157 k31 l2 l3 z3 l4 l5 l6 z0 z1 z2 = some res → WA p l e ({ frames := 2, cells := 0, slots := 0, locals := 50 } : Room) s m args below meth c (MQ below (QV D dT A ([wD dT a (a_p 0) (a_k 0) res.1, wR dT a_p res.2.1, wR dT a_k res.2.2, wV dT a0 z3])) args s 0 0 A) D A 0 0 8 157 ([wD dT a (a_p 0) (a_k 0) z0, wR dT a_p z1, wR dT a_k z2, wV dT a0 z3]) [(0, .ref (a 0)), (1, .ref (a0 0)), (2, .int l2), (3, .int l3), (4, .int l4), (5, .int l5), (6, .int l6)] [] := by
  intro l4 l5 l6 z0 z1 z2 hf
  unfold f_X2_choose_J157 at hf
  refine wa_aload_n C 0 158 dX2_choose_157 rfl rfl ?_
  refine wa_get C 161 0 0 2 dX2_choose_158 rfl iX2 q209 rfl (Nat.le_of_ble_eq_true rfl) rfl rfl rfl ?_
  refine wa_iload C 5 163 dX2_choose_161 rfl rfl ?_
  refine wa_iload C 4 165 dX2_choose_163 rfl rfl ?_
  obtain ⟨g15, hf⟩ := grd_ex hf
  obtain ⟨y16, ey16, hf⟩ := bnd_ex hf
  refine wa_iast (ws' := [wD dT a (a_p 0) (a_k 0) y16, wR dT a_p z1, wR dT a_k z2, wV dT a0 z3]) C 166 0 1 dX2_choose_165 rfl rfl rfl (vi_in g15) (by rw [ey16]; rfl) ?_
  refine wa_aload_n C 0 167 dX2_choose_166 rfl rfl ?_
  refine wa_get C 170 0 0 3 dX2_choose_167 rfl iX2 q210 rfl (Nat.le_of_ble_eq_true rfl) rfl rfl rfl ?_
  refine wa_iload C 5 172 dX2_choose_170 rfl rfl ?_
  refine wa_iload C 6 174 dX2_choose_172 rfl rfl ?_
  obtain ⟨g17, hf⟩ := grd_ex hf
  obtain ⟨y18, ey18, hf⟩ := bnd_ex hf
  refine wa_iast (ws' := [wD dT a (a_p 0) (a_k 0) y18, wR dT a_p z1, wR dT a_k z2, wV dT a0 z3]) C 175 0 2 dX2_choose_174 rfl rfl rfl (vi_in g17) (by rw [ey18]; rfl) ?_
  obtain ⟨x19, ex19, hf⟩ := bnd_ex hf
  refine wa_iinc (v := x19) (lv' := [(0, .ref (a 0)), (1, .ref (a0 0)), (2, .int l2), (3, .int l3), (4, .int x19), (5, .int l5), (6, .int l6)]) C 4 [1, 2, 3, 4, 0, 5, 6] 178 dX2_choose_175 rfl rfl (by rw [ex19]; rfl) (Nat.le_of_ble_eq_true rfl) rfl ?_
  refine wa_goto C 31 dX2_choose_178 rfl ?_
  refine wa_lv (lv' := [(0, .ref (a 0)), (1, .ref (a0 0)), (2, .int l2), (3, .int l3), (4, .int x19)]) [0, 1, 2, 3, 4] rfl ?_
  exact hk31 x19 y18 z1 z2 hf
set_option maxRecDepth 20000 in
theorem w_X2_choose_J99 {p : Program} {l : Launch} {e : Env} {s : State} {m : MethodId} {args : Array Value} {below : List Frame} {meth : Method} {c : Code} {D : va_G} {A : Nat → Prop} {dT : Nat → ClassId} {a : Nat → Nat} {a_p : Nat → Nat} {a_k : Nat → Nat} {a0 : Nat → Nat} {res : Ob × Ob × Ob} {l2 : Int32} {l3 : Int32} {z3 : Ob} (C : Cx p s m args meth c cX2_choose 8 RX2 none D A dT) {k31 : Int32 → Ob → Ob → Ob → Option (Ob × Ob × Ob)} (hk31 : ∀ (l4 : Int32) (z0 : Ob) (z1 : Ob) (z2 : Ob), k31 l4 z0 z1 z2 = some res → WA p l e ({ frames := 2, cells := 0, slots := 0, locals := 50 } : Room) s m args below meth c (MQ below (QV D dT A ([wD dT a (a_p 0) (a_k 0) res.1, wR dT a_p res.2.1, wR dT a_k res.2.2, wV dT a0 z3])) args s 0 0 A) D A 0 0 8 31 ([wD dT a (a_p 0) (a_k 0) z0, wR dT a_p z1, wR dT a_k z2, wV dT a0 z3]) [(0, .ref (a 0)), (1, .ref (a0 0)), (2, .int l2), (3, .int l3), (4, .int l4)] []) : ∀ (l4 : Int32) (l5 : Int32) (t0 : Int32) (z0 : Ob) (z1 : Ob) (z2 : Ob), f_X2_choose_J99 k31 l2 l3 z3 l4 l5 t0 z0 z1 z2 = some res → WA p l e ({ frames := 2, cells := 0, slots := 0, locals := 50 } : Room) s m args below meth c (MQ below (QV D dT A ([wD dT a (a_p 0) (a_k 0) res.1, wR dT a_p res.2.1, wR dT a_k res.2.2, wV dT a0 z3])) args s 0 0 A) D A 0 0 8 99 ([wD dT a (a_p 0) (a_k 0) z0, wR dT a_p z1, wR dT a_k z2, wV dT a0 z3]) [(0, .ref (a 0)), (1, .ref (a0 0)), (2, .int l2), (3, .int l3), (4, .int l4), (5, .int l5)] [.int t0] := by
  intro l4 l5 t0 z0 z1 z2 hf
  unfold f_X2_choose_J99 at hf
  refine wa_istore (lv' := [(0, .ref (a 0)), (1, .ref (a0 0)), (2, .int l2), (3, .int l3), (4, .int l4), (5, .int l5), (6, .int t0)]) C [1, 2, 3, 4, 5, 6, 0] 101 dX2_choose_99 rfl (Nat.le_of_ble_eq_true rfl) rfl ?_
  refine wa_aload_n C 0 102 dX2_choose_101 rfl rfl ?_
  refine wa_get C 105 0 0 2 dX2_choose_102 rfl iX2 q209 rfl (Nat.le_of_ble_eq_true rfl) rfl rfl rfl ?_
  refine wa_iload C 5 107 dX2_choose_105 rfl rfl ?_
  obtain ⟨g12, hf⟩ := grd_ex hf
  refine wa_iald C 108 0 1 dX2_choose_107 rfl rfl rfl (vi_in g12) ?_
  obtain ⟨x13, ex13, hf⟩ := bnd_ex hf
  refine wa_topi ex13 ?_
  refine wa_istore (lv' := [(0, .ref (a 0)), (1, .ref (a0 0)), (2, .int l2), (3, .int l3), (4, .int l4), (5, .int l5), (6, .int t0), (7, .int x13)]) C [1, 2, 3, 4, 5, 6, 7, 0] 110 dX2_choose_108 rfl (Nat.le_of_ble_eq_true rfl) rfl ?_
  refine wa_iload C 7 112 dX2_choose_110 rfl rfl ?_
  refine wa_iconst (v := (-1)) C 113 dX2_choose_112 rfl rfl ?_
  refine wa_icmp_eq C 157 116 dX2_choose_113 rfl rfl (fun c14 => ?_) (fun c14 => ?_)
  · replace hf := ite_t hf c14
    refine wa_lv (lv' := [(0, .ref (a 0)), (1, .ref (a0 0)), (2, .int l2), (3, .int l3), (4, .int l4), (5, .int l5), (6, .int t0)]) [0, 1, 2, 3, 4, 5, 6] rfl ?_
    exact w_X2_choose_J157 C hk31 l4 l5 t0 z0 z1 z2 hf
  · replace hf := ite_f hf c14
    refine wa_iload C 6 118 dX2_choose_116 rfl rfl ?_
    refine wa_aload_n C 0 119 dX2_choose_118 rfl rfl ?_
    refine wa_get C 122 0 0 3 dX2_choose_119 rfl iX2 q210 rfl (Nat.le_of_ble_eq_true rfl) rfl rfl rfl ?_
    refine wa_iload C 5 124 dX2_choose_122 rfl rfl ?_
    obtain ⟨g20, hf⟩ := grd_ex hf
    refine wa_iald C 125 0 2 dX2_choose_124 rfl rfl rfl (vi_in g20) ?_
    refine wa_icmp_gt C 157 128 dX2_choose_125 rfl rfl (fun c21 => ?_) (fun c21 => ?_)
    · replace hf := ite_t hf c21
      refine wa_lv (lv' := [(0, .ref (a 0)), (1, .ref (a0 0)), (2, .int l2), (3, .int l3), (4, .int l4), (5, .int l5), (6, .int t0)]) [0, 1, 2, 3, 4, 5, 6] rfl ?_
      exact w_X2_choose_J157 C hk31 l4 l5 t0 z0 z1 z2 hf
    · replace hf := ite_f hf c21
      refine wa_iload C 6 130 dX2_choose_128 rfl rfl ?_
      refine wa_aload_n C 0 131 dX2_choose_130 rfl rfl ?_
      refine wa_get C 134 0 0 3 dX2_choose_131 rfl iX2 q210 rfl (Nat.le_of_ble_eq_true rfl) rfl rfl rfl ?_
      refine wa_iload C 5 136 dX2_choose_134 rfl rfl ?_
      obtain ⟨g22, hf⟩ := grd_ex hf
      refine wa_iald C 137 0 2 dX2_choose_136 rfl rfl rfl (vi_in g22) ?_
      refine wa_icmp_ne C 175 140 dX2_choose_137 rfl rfl (fun c23 => ?_) (fun c23 => ?_)
      · replace hf := ite_f hf c23
        obtain ⟨x24, ex24, hf⟩ := bnd_ex hf
        refine wa_iinc (v := x24) (lv' := [(0, .ref (a 0)), (1, .ref (a0 0)), (2, .int l2), (3, .int l3), (4, .int x24), (5, .int l5), (6, .int t0), (7, .int x13)]) C 4 [1, 2, 3, 4, 0, 5, 6, 7] 178 dX2_choose_175 rfl rfl (by rw [ex24]; rfl) (Nat.le_of_ble_eq_true rfl) rfl ?_
        refine wa_goto C 31 dX2_choose_178 rfl ?_
        refine wa_lv (lv' := [(0, .ref (a 0)), (1, .ref (a0 0)), (2, .int l2), (3, .int l3), (4, .int x24)]) [0, 1, 2, 3, 4] rfl ?_
        exact hk31 x24 z0 z1 z2 hf
      · replace hf := ite_t hf c23
        refine wa_aload_n C 1 141 dX2_choose_140 rfl rfl ?_
        refine wa_get C 144 3 0 5 dX2_choose_141 rfl iX10 q79 rfl (Nat.le_of_ble_eq_true rfl) rfl rfl rfl ?_
        refine wa_iload C 4 146 dX2_choose_144 rfl rfl ?_
        obtain ⟨g25, hf⟩ := grd_ex hf
        refine wa_iald C 147 3 3 dX2_choose_146 rfl rfl rfl (vi_in g25) ?_
        refine wa_aload_n C 1 148 dX2_choose_147 rfl rfl ?_
        refine wa_get C 151 3 0 5 dX2_choose_148 rfl iX10 q79 rfl (Nat.le_of_ble_eq_true rfl) rfl rfl rfl ?_
        refine wa_iload C 7 153 dX2_choose_151 rfl rfl ?_
        obtain ⟨g26, hf⟩ := grd_ex hf
        refine wa_iald C 154 3 3 dX2_choose_153 rfl rfl rfl (vi_in g26) ?_
        refine wa_icmp_le C 175 157 dX2_choose_154 rfl rfl (fun c27 => ?_) (fun c27 => ?_)
        · replace hf := ite_t hf c27
          obtain ⟨x28, ex28, hf⟩ := bnd_ex hf
          refine wa_iinc (v := x28) (lv' := [(0, .ref (a 0)), (1, .ref (a0 0)), (2, .int l2), (3, .int l3), (4, .int x28), (5, .int l5), (6, .int t0), (7, .int x13)]) C 4 [1, 2, 3, 4, 0, 5, 6, 7] 178 dX2_choose_175 rfl rfl (by rw [ex28]; rfl) (Nat.le_of_ble_eq_true rfl) rfl ?_
          refine wa_goto C 31 dX2_choose_178 rfl ?_
          refine wa_lv (lv' := [(0, .ref (a 0)), (1, .ref (a0 0)), (2, .int l2), (3, .int l3), (4, .int x28)]) [0, 1, 2, 3, 4] rfl ?_
          exact hk31 x28 z0 z1 z2 hf
        · replace hf := ite_f hf c27
          refine wa_lv (lv' := [(0, .ref (a 0)), (1, .ref (a0 0)), (2, .int l2), (3, .int l3), (4, .int l4), (5, .int l5), (6, .int t0)]) [0, 1, 2, 3, 4, 5, 6] rfl ?_
          exact w_X2_choose_J157 C hk31 l4 l5 t0 z0 z1 z2 hf
set_option maxRecDepth 20000 in
theorem w_X2_choose_J98 {p : Program} {l : Launch} {e : Env} {s : State} {m : MethodId} {args : Array Value} {below : List Frame} {meth : Method} {c : Code} {D : va_G} {A : Nat → Prop} {dT : Nat → ClassId} {a : Nat → Nat} {a_p : Nat → Nat} {a_k : Nat → Nat} {a0 : Nat → Nat} {res : Ob × Ob × Ob} {l2 : Int32} {l3 : Int32} {z3 : Ob} (C : Cx p s m args meth c cX2_choose 8 RX2 none D A dT) {k31 : Int32 → Ob → Ob → Ob → Option (Ob × Ob × Ob)} (hk31 : ∀ (l4 : Int32) (z0 : Ob) (z1 : Ob) (z2 : Ob), k31 l4 z0 z1 z2 = some res → WA p l e ({ frames := 2, cells := 0, slots := 0, locals := 50 } : Room) s m args below meth c (MQ below (QV D dT A ([wD dT a (a_p 0) (a_k 0) res.1, wR dT a_p res.2.1, wR dT a_k res.2.2, wV dT a0 z3])) args s 0 0 A) D A 0 0 8 31 ([wD dT a (a_p 0) (a_k 0) z0, wR dT a_p z1, wR dT a_k z2, wV dT a0 z3]) [(0, .ref (a 0)), (1, .ref (a0 0)), (2, .int l2), (3, .int l3), (4, .int l4)] []) : ∀ (l4 : Int32) (l5 : Int32) (z0 : Ob) (z1 : Ob) (z2 : Ob), f_X2_choose_J98 k31 l2 l3 z3 l4 l5 z0 z1 z2 = some res → WA p l e ({ frames := 2, cells := 0, slots := 0, locals := 50 } : Room) s m args below meth c (MQ below (QV D dT A ([wD dT a (a_p 0) (a_k 0) res.1, wR dT a_p res.2.1, wR dT a_k res.2.2, wV dT a0 z3])) args s 0 0 A) D A 0 0 8 98 ([wD dT a (a_p 0) (a_k 0) z0, wR dT a_p z1, wR dT a_k z2, wV dT a0 z3]) [(0, .ref (a 0)), (1, .ref (a0 0)), (2, .int l2), (3, .int l3), (4, .int l4), (5, .int l5)] [] := by
  intro l4 l5 z0 z1 z2 hf
  unfold f_X2_choose_J98 at hf
  refine wa_iconst (v := 0) C 99 dX2_choose_98 rfl rfl ?_
  exact w_X2_choose_J99 C hk31 l4 l5 (0 : Int32) z0 z1 z2 hf
set_option maxRecDepth 20000 in
theorem w_X2_choose_L31 {p : Program} {l : Launch} {e : Env} {s : State} {m : MethodId} {args : Array Value} {below : List Frame} {meth : Method} {c : Code} {D : va_G} {A : Nat → Prop} {dT : Nat → ClassId} {a : Nat → Nat} {a_p : Nat → Nat} {a_k : Nat → Nat} {a0 : Nat → Nat} {res : Ob × Ob × Ob} {l2 : Int32} {l3 : Int32} {z3 : Ob} (C : Cx p s m args meth c cX2_choose 8 RX2 none D A dT) : ∀ (n : Nat) (l4 : Int32) (z0 : Ob) (z1 : Ob) (z2 : Ob), f_X2_choose_L31 l2 l3 z3 n l4 z0 z1 z2 = some res → WA p l e ({ frames := 2, cells := 0, slots := 0, locals := 50 } : Room) s m args below meth c (MQ below (QV D dT A ([wD dT a (a_p 0) (a_k 0) res.1, wR dT a_p res.2.1, wR dT a_k res.2.2, wV dT a0 z3])) args s 0 0 A) D A 0 0 8 31 ([wD dT a (a_p 0) (a_k 0) z0, wR dT a_p z1, wR dT a_k z2, wV dT a0 z3]) [(0, .ref (a 0)), (1, .ref (a0 0)), (2, .int l2), (3, .int l3), (4, .int l4)] [] := by
  intro n
  induction n with
  | zero => intro l4 z0 z1 z2 hf; cases hf
  | succ n ih =>
    intro l4 z0 z1 z2 hf
    unfold f_X2_choose_L31 at hf
    refine wa_iload C 4 33 dX2_choose_31 rfl rfl ?_
    refine wa_aload_n C 1 34 dX2_choose_33 rfl rfl ?_
    refine wa_get C 37 3 0 0 dX2_choose_34 rfl iX10 q52 rfl (Nat.le_of_ble_eq_true rfl) rfl rfl rfl ?_
    refine wa_icmp_ge C 181 40 dX2_choose_37 rfl rfl (fun c4 => ?_) (fun c4 => ?_)
    · replace hf := ite_t hf c4
      cases hf
      exact wa_vret C dX2_choose_181 rfl
    · replace hf := ite_f hf c4
      refine wa_aload_n C 1 41 dX2_choose_40 rfl rfl ?_
      refine wa_get C 44 3 0 4 dX2_choose_41 rfl iX10 q73 rfl (Nat.le_of_ble_eq_true rfl) rfl rfl rfl ?_
      refine wa_iload C 4 46 dX2_choose_44 rfl rfl ?_
      obtain ⟨g5, hf⟩ := grd_ex hf
      refine wa_iald C 47 3 2 dX2_choose_46 rfl rfl rfl (vi_in g5) ?_
      obtain ⟨x6, ex6, hf⟩ := bnd_ex hf
      refine wa_topi ex6 ?_
      refine wa_istore (lv' := [(0, .ref (a 0)), (1, .ref (a0 0)), (2, .int l2), (3, .int l3), (4, .int l4), (5, .int x6)]) C [1, 2, 3, 4, 5, 0] 49 dX2_choose_47 rfl (Nat.le_of_ble_eq_true rfl) rfl ?_
      refine wa_iload_n C 3 50 dX2_choose_49 rfl rfl ?_
      refine wa_iload C 5 52 dX2_choose_50 rfl rfl ?_
      refine wa_ishr C 53 dX2_choose_52 rfl ?_
      refine wa_iconst (v := 1) C 54 dX2_choose_53 rfl rfl ?_
      refine wa_iand C 55 dX2_choose_54 rfl ?_
      refine wa_if_ne C 175 58 dX2_choose_55 rfl rfl (fun c7 => ?_) (fun c7 => ?_)
      · replace hf := ite_f hf c7
        obtain ⟨x8, ex8, hf⟩ := bnd_ex hf
        refine wa_iinc (v := x8) (lv' := [(0, .ref (a 0)), (1, .ref (a0 0)), (2, .int l2), (3, .int l3), (4, .int x8), (5, .int x6)]) C 4 [1, 2, 3, 4, 0, 5] 178 dX2_choose_175 rfl rfl (by rw [ex8]; rfl) (Nat.le_of_ble_eq_true rfl) rfl ?_
        refine wa_goto C 31 dX2_choose_178 rfl ?_
        refine wa_lv (lv' := [(0, .ref (a 0)), (1, .ref (a0 0)), (2, .int l2), (3, .int l3), (4, .int x8)]) [0, 1, 2, 3, 4] rfl ?_
        exact ih x8 z0 z1 z2 hf
      · replace hf := ite_t hf c7
        refine wa_iload_n C 2 59 dX2_choose_58 rfl rfl ?_
        refine wa_iload C 4 61 dX2_choose_59 rfl rfl ?_
        refine wa_ishr C 62 dX2_choose_61 rfl ?_
        refine wa_iconst (v := 1) C 63 dX2_choose_62 rfl rfl ?_
        refine wa_iand C 64 dX2_choose_63 rfl ?_
        refine wa_if_ne C 175 67 dX2_choose_64 rfl rfl (fun c9 => ?_) (fun c9 => ?_)
        · replace hf := ite_f hf c9
          obtain ⟨x10, ex10, hf⟩ := bnd_ex hf
          refine wa_iinc (v := x10) (lv' := [(0, .ref (a 0)), (1, .ref (a0 0)), (2, .int l2), (3, .int l3), (4, .int x10), (5, .int x6)]) C 4 [1, 2, 3, 4, 0, 5] 178 dX2_choose_175 rfl rfl (by rw [ex10]; rfl) (Nat.le_of_ble_eq_true rfl) rfl ?_
          refine wa_goto C 31 dX2_choose_178 rfl ?_
          refine wa_lv (lv' := [(0, .ref (a 0)), (1, .ref (a0 0)), (2, .int l2), (3, .int l3), (4, .int x10)]) [0, 1, 2, 3, 4] rfl ?_
          exact ih x10 z0 z1 z2 hf
        · replace hf := ite_t hf c9
          refine wa_aload_n C 0 68 dX2_choose_67 rfl rfl ?_
          refine wa_get C 71 0 0 0 dX2_choose_68 rfl iX2 q205 rfl (Nat.le_of_ble_eq_true rfl) rfl rfl rfl ?_
          refine wa_get C 74 1 0 0 dX2_choose_71 rfl iX7 q143 rfl (Nat.le_of_ble_eq_true rfl) rfl rfl rfl ?_
          refine wa_if_eq C 98 77 dX2_choose_74 rfl rfl (fun c11 => ?_) (fun c11 => ?_)
          · replace hf := ite_t hf c11
            exact w_X2_choose_J98 C ih l4 x6 z0 z1 z2 hf
          · replace hf := ite_f hf c11
            refine wa_aload_n C 1 78 dX2_choose_77 rfl rfl ?_
            refine wa_get C 81 3 0 8 dX2_choose_78 rfl iX10 q89 rfl (Nat.le_of_ble_eq_true rfl) rfl rfl rfl ?_
            refine wa_iload C 5 83 dX2_choose_81 rfl rfl ?_
            obtain ⟨g29, hf⟩ := grd_ex hf
            refine wa_iald C 84 3 6 dX2_choose_83 rfl rfl rfl (vi_in g29) ?_
            refine wa_iconst (v := 1) C 85 dX2_choose_84 rfl rfl ?_
            refine wa_icmp_le C 98 88 dX2_choose_85 rfl rfl (fun c30 => ?_) (fun c30 => ?_)
            · replace hf := ite_t hf c30
              exact w_X2_choose_J98 C ih l4 x6 z0 z1 z2 hf
            · replace hf := ite_f hf c30
              refine wa_aload_n C 0 89 dX2_choose_88 rfl rfl ?_
              refine wa_aload_n C 1 90 dX2_choose_89 rfl rfl ?_
              refine wa_iload C 4 92 dX2_choose_90 rfl rfl ?_
              obtain ⟨q31, hq31, hf⟩ := bind_ex hf
              refine wa_callVAi (b1 := 0) (q1 := 0) (ci := 2) (As := [.ref (a0 0), .int l4]) C 95 dX2_choose_92 rfl kv_X2_77 (c_X2_worthOf hq31) ⟨rfl, rfl⟩ ⟨Nat.le_of_ble_eq_true rfl, Nat.le_of_ble_eq_true rfl⟩ rfl rfl rfl rfl rfl ⟨Nat.zero_le _, Nat.zero_le _⟩ (Nat.le_of_ble_eq_true rfl) ?_
              refine wa_goto C 99 dX2_choose_95 rfl ?_
              exact w_X2_choose_J99 C ih l4 x6 q31.1 q31.2.1 q31.2.2 z2 hf
set_option maxRecDepth 20000 in
theorem w_X2_choose_J19 {p : Program} {l : Launch} {e : Env} {s : State} {m : MethodId} {args : Array Value} {below : List Frame} {meth : Method} {c : Code} {D : va_G} {A : Nat → Prop} {dT : Nat → ClassId} {a : Nat → Nat} {a_p : Nat → Nat} {a_k : Nat → Nat} {a0 : Nat → Nat} {res : Ob × Ob × Ob} {z3 : Ob} (C : Cx p s m args meth c cX2_choose 8 RX2 none D A dT) : ∀ (l2 : Int32) (t0 : Int32) (z0 : Ob) (z1 : Ob) (z2 : Ob), f_X2_choose_J19 z3 l2 t0 z0 z1 z2 = some res → WA p l e ({ frames := 2, cells := 0, slots := 0, locals := 50 } : Room) s m args below meth c (MQ below (QV D dT A ([wD dT a (a_p 0) (a_k 0) res.1, wR dT a_p res.2.1, wR dT a_k res.2.2, wV dT a0 z3])) args s 0 0 A) D A 0 0 8 19 ([wD dT a (a_p 0) (a_k 0) z0, wR dT a_p z1, wR dT a_k z2, wV dT a0 z3]) [(0, .ref (a 0)), (1, .ref (a0 0)), (2, .int l2)] [.int t0] := by
  intro l2 t0 z0 z1 z2 hf
  unfold f_X2_choose_J19 at hf
  refine wa_istore_n (lv' := [(0, .ref (a 0)), (1, .ref (a0 0)), (2, .int l2), (3, .int t0)]) C [1, 2, 3, 0] 20 dX2_choose_19 rfl (Nat.le_of_ble_eq_true rfl) rfl ?_
  refine wa_aload_n C 0 21 dX2_choose_20 rfl rfl ?_
  refine wa_get C 24 0 0 2 dX2_choose_21 rfl iX2 q209 rfl (Nat.le_of_ble_eq_true rfl) rfl rfl rfl ?_
  refine wa_iconst (v := (-1)) C 25 dX2_choose_24 rfl rfl ?_
  refine wa_open 0 1 rfl rfl ?_
  obtain ⟨q2, hq2, hf⟩ := bind_ex hf
  obtain ⟨y3, ey3, hf⟩ := bnd_ex hf
  refine wa_callSv (ws' := [(wD dT a (a_p 0) (a_k 0) z0).eraseIdx 1, wR dT a_p z1, wR dT a_k z2, wV dT a0 z3, [(a 1, .inl (dT 0, 13, .inl q2))]]) (As := [.ref (a 1), .int (-1 : Int32)]) C 28 dX2_choose_25 rfl ks_X2_62 (c_J7_fill_53178 hq2) ⟨rfl, rfl⟩ ⟨Nat.le_of_ble_eq_true rfl, Nat.le_of_ble_eq_true rfl⟩ [4] [0, 1, 2, 3] [0, 1, 2, 3, 4] rfl rfl rfl rfl (by decide) rfl rfl rfl rfl ⟨Nat.zero_le _, Nat.zero_le _⟩ (Nat.le_of_ble_eq_true rfl) ?_
  refine wa_close (ws := [(wD dT a (a_p 0) (a_k 0) z0).eraseIdx 1, wR dT a_p z1, wR dT a_k z2, wV dT a0 z3]) (ws' := [wD dT a (a_p 0) (a_k 0) y3, wR dT a_p z1, wR dT a_k z2, wV dT a0 z3]) 0 1 (wD dT a (a_p 0) (a_k 0) y3) (by rw [ey3]; rfl) (by rw [ey3]; rfl) rfl ?_
  refine wa_iconst (v := 0) C 29 dX2_choose_28 rfl rfl ?_
  refine wa_istore (lv' := [(0, .ref (a 0)), (1, .ref (a0 0)), (2, .int l2), (3, .int t0), (4, .int (0 : Int32))]) C [1, 2, 3, 4, 0] 31 dX2_choose_29 rfl (Nat.le_of_ble_eq_true rfl) rfl ?_
  exact w_X2_choose_L31 C FUEL (0 : Int32) y3 z1 z2 hf
set_option maxRecDepth 20000 in
theorem c_X2_choose {l : Launch} {D : va_G} {dT : Nat → ClassId} {a : Nat → Nat} {a_p : Nat → Nat} {a_k : Nat → Nat} {a0 : Nat → Nat} {v : Ob} {v_p : Ob} {v_k : Ob} {v0 : Ob} {p1 : Int32} {res : Ob × Ob × Ob} (hf : f_X2_choose v v_p v_k v0 p1 = some res) : CTv l yX2_choose cX2_choose 8 none ({ frames := 2, cells := 0, slots := 0, locals := 50 } : Room) D dT [.ref (a 0), .ref (a0 0), .int p1] ([wD dT a (a_p 0) (a_k 0) v, wR dT a_p v_p, wR dT a_k v_k, wV dT a0 v0]) ([wD dT a (a_p 0) (a_k 0) res.1, wR dT a_p res.2.1, wR dT a_k res.2.2, wV dT a0 v0]) := by
  refine CTv.of (by decide) (Nat.le_of_ble_eq_true rfl) rfl ?_
  intro p e s m args below meth c A C
  unfold f_X2_choose at hf
  refine wa_aload_n C 0 1 dX2_choose_0 rfl rfl ?_
  refine wa_get C 4 0 0 1 dX2_choose_1 rfl iX2 q207 rfl (Nat.le_of_ble_eq_true rfl) rfl rfl rfl ?_
  refine wa_get C 7 2 0 0 dX2_choose_4 rfl iX7 q143 rfl (Nat.le_of_ble_eq_true rfl) rfl rfl rfl ?_
  refine wa_if_eq C 18 10 dX2_choose_7 rfl rfl (fun c1 => ?_) (fun c1 => ?_)
  · replace hf := ite_t hf c1
    refine wa_iconst (v := 0) C 19 dX2_choose_18 rfl rfl ?_
    exact w_X2_choose_J19 C p1 (0 : Int32) v v_p v_k hf
  · replace hf := ite_f hf c1
    refine wa_aload_n C 0 11 dX2_choose_10 rfl rfl ?_
    refine wa_aload_n C 1 12 dX2_choose_11 rfl rfl ?_
    obtain ⟨q32, hq32, hf⟩ := bind_ex hf
    refine wa_callVAi (b1 := 0) (q1 := 0) (ci := 2) (As := [.ref (a0 0)]) C 15 dX2_choose_12 rfl kv_X2_59 (c_X2_keptIn hq32) ⟨rfl, rfl⟩ ⟨Nat.le_of_ble_eq_true rfl, Nat.le_of_ble_eq_true rfl⟩ rfl rfl rfl rfl rfl ⟨Nat.zero_le _, Nat.zero_le _⟩ (Nat.le_of_ble_eq_true rfl) ?_
    refine wa_goto C 19 dX2_choose_15 rfl ?_
    exact w_X2_choose_J19 C p1 q32.1 q32.2.1 v_p q32.2.2 hf
theorem kv_X2_34 : KV RX2 34 yX2_choose cX2_choose 8 none 2 := KV.mk q463 q465 qs5 q6 q466 ⟨by decide, by decide, by decide +kernel⟩
def f_X2_leaverOf (v : Ob) (v_p : Ob) (v_k : Ob) (v0 : Ob) (p1 : Int32) : Option (Int32 × Ob × Ob × Ob) := (f_X2_choose v v_p v_k v0 (0 : Int32)).bind (fun q1 => grd (vi p1 13) (some ((q1.1.2 1 (p1).toNatClampNeg), q1.1, q1.2.1, q1.2.2)))
set_option maxRecDepth 20000 in
theorem c_X2_leaverOf {l : Launch} {D : va_G} {dT : Nat → ClassId} {a : Nat → Nat} {a_p : Nat → Nat} {a_k : Nat → Nat} {a0 : Nat → Nat} {v : Ob} {v_p : Ob} {v_k : Ob} {v0 : Ob} {p1 : Int32} {res : Int32 × Ob × Ob × Ob} (hf : f_X2_leaverOf v v_p v_k v0 p1 = some res) : CTi l yX2_leaverOf cX2_leaverOf 3 (some .int) ({ frames := 3, cells := 0, slots := 0, locals := 77 } : Room) D dT [.ref (a 0), .ref (a0 0), .int p1] ([wD dT a (a_p 0) (a_k 0) v, wR dT a_p v_p, wR dT a_k v_k, wV dT a0 v0]) ([wD dT a (a_p 0) (a_k 0) res.2.1, wR dT a_p res.2.2.1, wR dT a_k res.2.2.2, wV dT a0 v0]) res.1 := by
  refine CTi.of (by decide) (Nat.le_of_ble_eq_true rfl) rfl ?_
  intro p e s m args below meth c A C
  unfold f_X2_leaverOf at hf
  refine wa_aload_n C 0 1 dX2_leaverOf_0 rfl rfl ?_
  refine wa_aload_n C 1 2 dX2_leaverOf_1 rfl rfl ?_
  refine wa_iconst (v := 0) C 3 dX2_leaverOf_2 rfl rfl ?_
  obtain ⟨q1, hq1, hf⟩ := bind_ex hf
  refine wa_callVAv (b1 := 0) (q1 := 0) (ci := 2) (As := [.ref (a0 0), .int (0 : Int32)]) C 6 dX2_leaverOf_3 rfl kv_X2_34 (c_X2_choose hq1) ⟨rfl, rfl⟩ ⟨Nat.le_of_ble_eq_true rfl, Nat.le_of_ble_eq_true rfl⟩ rfl rfl rfl rfl rfl ⟨Nat.zero_le _, Nat.zero_le _⟩ (Nat.le_of_ble_eq_true rfl) ?_
  refine wa_aload_n C 0 7 dX2_leaverOf_6 rfl rfl ?_
  refine wa_get C 10 0 0 2 dX2_leaverOf_7 rfl iX2 q209 rfl (Nat.le_of_ble_eq_true rfl) rfl rfl rfl ?_
  refine wa_iload_n C 2 11 dX2_leaverOf_10 rfl rfl ?_
  obtain ⟨g2, hf⟩ := grd_ex hf
  refine wa_iald C 12 0 1 dX2_leaverOf_11 rfl rfl rfl (vi_in g2) ?_
  cases hf
  exact wa_iret C dX2_leaverOf_12 rfl rfl
def f_X2_comeUp_L2 (z0 : Ob) (z1 : Ob) (z2 : Ob) : Nat → Int32 → Ob → Option (Ob)
  | 0, _, _ => none
  | n + 1, l2, z3 => (if (z3.1 0) ≤ l2 then some (z3) else grd (vi l2 12) (grd (vi (z3.2 2 (l2).toNatClampNeg) 13) (bnd (z0.2 1 ((z3.2 2 (l2).toNatClampNeg)).toNatClampNeg) (fun x4 => (if x4 = (-1 : Int32) then bnd (l2 + 1) (fun x6 => f_X2_comeUp_L2 z0 z1 z2 n x6 z3) else grd (vi l2 12) (grd (vi x4 12) ((if (z3.2 3 (l2).toNatClampNeg) ≤ (z3.2 3 (x4).toNatClampNeg) then bnd (l2 + 1) (fun x10 => f_X2_comeUp_L2 z0 z1 z2 n x10 z3) else grd (vi l2 12) (grd (vi l2 12) (bnd (z3.1, uA z3.2 3 (l2).toNatClampNeg ((z3.2 3 (l2).toNatClampNeg) - (1 : Int32))) (fun y13 => bnd (l2 + 1) (fun x14 => f_X2_comeUp_L2 z0 z1 z2 n x14 y13))))))))))))
def f_X2_comeUp (v : Ob) (v_p : Ob) (v_k : Ob) (v0 : Ob) : Option (Ob) := f_X2_comeUp_L2 v v_p v_k FUEL (0 : Int32) v0
set_option maxRecDepth 20000 in
theorem w_X2_comeUp_L2 {p : Program} {l : Launch} {e : Env} {s : State} {m : MethodId} {args : Array Value} {below : List Frame} {meth : Method} {c : Code} {D : va_G} {A : Nat → Prop} {dT : Nat → ClassId} {a : Nat → Nat} {a_p : Nat → Nat} {a_k : Nat → Nat} {a0 : Nat → Nat} {res : Ob} {z0 : Ob} {z1 : Ob} {z2 : Ob} (C : Cx p s m args meth c cX2_comeUp 4 RX2 none D A dT) : ∀ (n : Nat) (l2 : Int32) (z3 : Ob), f_X2_comeUp_L2 z0 z1 z2 n l2 z3 = some res → WA p l e ({ frames := 0, cells := 0, slots := 0, locals := 0 } : Room) s m args below meth c (MQ below (QV D dT A ([wD dT a (a_p 0) (a_k 0) z0, wR dT a_p z1, wR dT a_k z2, wV dT a0 res])) args s 0 0 A) D A 0 0 4 2 ([wD dT a (a_p 0) (a_k 0) z0, wR dT a_p z1, wR dT a_k z2, wV dT a0 z3]) [(0, .ref (a 0)), (1, .ref (a0 0)), (2, .int l2)] [] := by
  intro n
  induction n with
  | zero => intro l2 z3 hf; cases hf
  | succ n ih =>
    intro l2 z3 hf
    unfold f_X2_comeUp_L2 at hf
    refine wa_iload_n C 2 3 dX2_comeUp_2 rfl rfl ?_
    refine wa_aload_n C 1 4 dX2_comeUp_3 rfl rfl ?_
    refine wa_get C 7 3 0 0 dX2_comeUp_4 rfl iX10 q52 rfl (Nat.le_of_ble_eq_true rfl) rfl rfl rfl ?_
    refine wa_icmp_ge C 58 10 dX2_comeUp_7 rfl rfl (fun c1 => ?_) (fun c1 => ?_)
    · replace hf := ite_t hf c1
      cases hf
      exact wa_vret C dX2_comeUp_58 rfl
    · replace hf := ite_f hf c1
      refine wa_aload_n C 0 11 dX2_comeUp_10 rfl rfl ?_
      refine wa_get C 14 0 0 2 dX2_comeUp_11 rfl iX2 q209 rfl (Nat.le_of_ble_eq_true rfl) rfl rfl rfl ?_
      refine wa_aload_n C 1 15 dX2_comeUp_14 rfl rfl ?_
      refine wa_get C 18 3 0 4 dX2_comeUp_15 rfl iX10 q73 rfl (Nat.le_of_ble_eq_true rfl) rfl rfl rfl ?_
      refine wa_iload_n C 2 19 dX2_comeUp_18 rfl rfl ?_
      obtain ⟨g2, hf⟩ := grd_ex hf
      refine wa_iald C 20 3 2 dX2_comeUp_19 rfl rfl rfl (vi_in g2) ?_
      obtain ⟨g3, hf⟩ := grd_ex hf
      refine wa_iald C 21 0 1 dX2_comeUp_20 rfl rfl rfl (vi_in g3) ?_
      obtain ⟨x4, ex4, hf⟩ := bnd_ex hf
      refine wa_topi ex4 ?_
      refine wa_istore_n (lv' := [(0, .ref (a 0)), (1, .ref (a0 0)), (2, .int l2), (3, .int x4)]) C [1, 2, 3, 0] 22 dX2_comeUp_21 rfl (Nat.le_of_ble_eq_true rfl) rfl ?_
      refine wa_iload_n C 3 23 dX2_comeUp_22 rfl rfl ?_
      refine wa_iconst (v := (-1)) C 24 dX2_comeUp_23 rfl rfl ?_
      refine wa_icmp_eq C 52 27 dX2_comeUp_24 rfl rfl (fun c5 => ?_) (fun c5 => ?_)
      · replace hf := ite_t hf c5
        obtain ⟨x6, ex6, hf⟩ := bnd_ex hf
        refine wa_iinc (v := x6) (lv' := [(0, .ref (a 0)), (1, .ref (a0 0)), (2, .int x6), (3, .int x4)]) C 2 [1, 2, 0, 3] 55 dX2_comeUp_52 rfl rfl (by rw [ex6]; rfl) (Nat.le_of_ble_eq_true rfl) rfl ?_
        refine wa_goto C 2 dX2_comeUp_55 rfl ?_
        refine wa_lv (lv' := [(0, .ref (a 0)), (1, .ref (a0 0)), (2, .int x6)]) [0, 1, 2] rfl ?_
        exact ih x6 z3 hf
      · replace hf := ite_f hf c5
        refine wa_aload_n C 1 28 dX2_comeUp_27 rfl rfl ?_
        refine wa_get C 31 3 0 5 dX2_comeUp_28 rfl iX10 q79 rfl (Nat.le_of_ble_eq_true rfl) rfl rfl rfl ?_
        refine wa_iload_n C 2 32 dX2_comeUp_31 rfl rfl ?_
        obtain ⟨g7, hf⟩ := grd_ex hf
        refine wa_iald C 33 3 3 dX2_comeUp_32 rfl rfl rfl (vi_in g7) ?_
        refine wa_aload_n C 1 34 dX2_comeUp_33 rfl rfl ?_
        refine wa_get C 37 3 0 5 dX2_comeUp_34 rfl iX10 q79 rfl (Nat.le_of_ble_eq_true rfl) rfl rfl rfl ?_
        refine wa_iload_n C 3 38 dX2_comeUp_37 rfl rfl ?_
        obtain ⟨g8, hf⟩ := grd_ex hf
        refine wa_iald C 39 3 3 dX2_comeUp_38 rfl rfl rfl (vi_in g8) ?_
        refine wa_icmp_le C 52 42 dX2_comeUp_39 rfl rfl (fun c9 => ?_) (fun c9 => ?_)
        · replace hf := ite_t hf c9
          obtain ⟨x10, ex10, hf⟩ := bnd_ex hf
          refine wa_iinc (v := x10) (lv' := [(0, .ref (a 0)), (1, .ref (a0 0)), (2, .int x10), (3, .int x4)]) C 2 [1, 2, 0, 3] 55 dX2_comeUp_52 rfl rfl (by rw [ex10]; rfl) (Nat.le_of_ble_eq_true rfl) rfl ?_
          refine wa_goto C 2 dX2_comeUp_55 rfl ?_
          refine wa_lv (lv' := [(0, .ref (a 0)), (1, .ref (a0 0)), (2, .int x10)]) [0, 1, 2] rfl ?_
          exact ih x10 z3 hf
        · replace hf := ite_f hf c9
          refine wa_aload_n C 1 43 dX2_comeUp_42 rfl rfl ?_
          refine wa_get C 46 3 0 5 dX2_comeUp_43 rfl iX10 q79 rfl (Nat.le_of_ble_eq_true rfl) rfl rfl rfl ?_
          refine wa_iload_n C 2 47 dX2_comeUp_46 rfl rfl ?_
          refine wa_dup2 C 48 dX2_comeUp_47 rfl rfl rfl ?_
          obtain ⟨g11, hf⟩ := grd_ex hf
          refine wa_iald C 49 3 3 dX2_comeUp_48 rfl rfl rfl (vi_in g11) ?_
          refine wa_iconst (v := 1) C 50 dX2_comeUp_49 rfl rfl ?_
          refine wa_isub C 51 dX2_comeUp_50 rfl ?_
          obtain ⟨g12, hf⟩ := grd_ex hf
          obtain ⟨y13, ey13, hf⟩ := bnd_ex hf
          refine wa_iast (ws' := [wD dT a (a_p 0) (a_k 0) z0, wR dT a_p z1, wR dT a_k z2, wV dT a0 y13]) C 52 3 3 dX2_comeUp_51 rfl rfl rfl (vi_in g12) (by rw [ey13]; rfl) ?_
          obtain ⟨x14, ex14, hf⟩ := bnd_ex hf
          refine wa_iinc (v := x14) (lv' := [(0, .ref (a 0)), (1, .ref (a0 0)), (2, .int x14), (3, .int x4)]) C 2 [1, 2, 0, 3] 55 dX2_comeUp_52 rfl rfl (by rw [ex14]; rfl) (Nat.le_of_ble_eq_true rfl) rfl ?_
          refine wa_goto C 2 dX2_comeUp_55 rfl ?_
          refine wa_lv (lv' := [(0, .ref (a 0)), (1, .ref (a0 0)), (2, .int x14)]) [0, 1, 2] rfl ?_
          exact ih x14 y13 hf
set_option maxRecDepth 20000 in
theorem c_X2_comeUp {l : Launch} {D : va_G} {dT : Nat → ClassId} {a : Nat → Nat} {a_p : Nat → Nat} {a_k : Nat → Nat} {a0 : Nat → Nat} {v : Ob} {v_p : Ob} {v_k : Ob} {v0 : Ob} {res : Ob} (hf : f_X2_comeUp v v_p v_k v0 = some res) : CTv l yX2_comeUp cX2_comeUp 4 none ({ frames := 0, cells := 0, slots := 0, locals := 0 } : Room) D dT [.ref (a 0), .ref (a0 0)] ([wD dT a (a_p 0) (a_k 0) v, wR dT a_p v_p, wR dT a_k v_k, wV dT a0 v0]) ([wD dT a (a_p 0) (a_k 0) v, wR dT a_p v_p, wR dT a_k v_k, wV dT a0 res]) := by
  refine CTv.of (by decide) (Nat.le_of_ble_eq_true rfl) rfl ?_
  intro p e s m args below meth c A C
  unfold f_X2_comeUp at hf
  refine wa_iconst (v := 0) C 1 dX2_comeUp_0 rfl rfl ?_
  refine wa_istore_n (lv' := [(0, .ref (a 0)), (1, .ref (a0 0)), (2, .int (0 : Int32))]) C [1, 2, 0] 2 dX2_comeUp_1 rfl (Nat.le_of_ble_eq_true rfl) rfl ?_
  exact w_X2_comeUp_L2 C FUEL (0 : Int32) v0 hf
theorem kv_X2_104 : KV RX2 104 yX10_addHouse cX10_addHouse 2 (some .int) 0 := KV.mk q498 q499 q500 q3 q501 ⟨by decide, by decide, by decide +kernel⟩
theorem kv_X2_108 : KV RX2 108 yX10_enter cX10_enter 3 none 2 := KV.mk q505 q506 q507 q3 q508 ⟨by decide, by decide, by decide +kernel⟩
def f_X2_goOut_J44 (k13 : Int32 → Int32 → Int32 → Ob → Option (Int32 × Ob)) (l2 : Int32) (z0 : Ob) (z1 : Ob) (z2 : Ob) (l3 : Int32) (l4 : Int32) (l5 : Int32) (l6 : Int32) (z3 : Ob) : Option (Int32 × Ob) := grd (vi l5 13) (grd (vi l5 13) (bnd (z3.1, uA z3.2 6 (l5).toNatClampNeg ((z3.2 6 (l5).toNatClampNeg) - (1 : Int32))) (fun y10 => (f_X10_enter y10 l6 l3).bind (fun q11 => grd (vi l6 12) (grd (vi l6 12) (bnd (q11.1, uA q11.2 5 (l6).toNatClampNeg ((q11.2 5 (l6).toNatClampNeg) + (1 : Int32))) (fun y14 => grd (vi l6 12) (bnd (y14.1, uA y14.2 4 (l6).toNatClampNeg ((y14.1 2) + (1 : Int32))) (fun y16 => grd (vi l3 13) (bnd (y16.1, uA y16.2 7 (l3).toNatClampNeg ((y16.1 2) + (1 : Int32))) (fun y18 => bnd (l4 ||| ((1 : Int32) <<< (l6 &&& 31))) (fun x19 => bnd (l5 + 1) (fun x20 => k13 l3 x19 x20 y18)))))))))))))
def f_X2_goOut_L13 (l2 : Int32) (z0 : Ob) (z1 : Ob) (z2 : Ob) : Nat → Int32 → Int32 → Int32 → Ob → Option (Int32 × Ob)
  | 0, _, _, _, _ => none
  | n + 1, l3, l4, l5, z3 => (if l2 ≤ l5 then some (l4, z3) else grd (vi l5 13) (bnd (z0.2 1 (l5).toNatClampNeg) (fun x4 => (if x4 = (-1 : Int32) then bnd (l5 + 1) (fun x6 => f_X2_goOut_L13 l2 z0 z1 z2 n l3 l4 x6 z3) else (if l3 = (-1 : Int32) then (f_X10_addHouse z3).bind (fun q21 => f_X2_goOut_J44 (f_X2_goOut_L13 l2 z0 z1 z2 n) l2 z0 z1 z2 q21.1 l4 l5 x4 q21.2) else f_X2_goOut_J44 (f_X2_goOut_L13 l2 z0 z1 z2 n) l2 z0 z1 z2 l3 l4 l5 x4 z3)))))
def f_X2_goOut (v : Ob) (v_p : Ob) (v_k : Ob) (v0 : Ob) : Option (Int32 × Ob) := bnd (v0.1 1) (fun x1 => f_X2_goOut_L13 x1 v v_p v_k FUEL (-1 : Int32) (0 : Int32) (0 : Int32) v0)
set_option maxRecDepth 20000 in
theorem w_X2_goOut_J44 {p : Program} {l : Launch} {e : Env} {s : State} {m : MethodId} {args : Array Value} {below : List Frame} {meth : Method} {c : Code} {D : va_G} {A : Nat → Prop} {dT : Nat → ClassId} {a : Nat → Nat} {a_p : Nat → Nat} {a_k : Nat → Nat} {a0 : Nat → Nat} {res : Int32 × Ob} {l2 : Int32} {z0 : Ob} {z1 : Ob} {z2 : Ob} (C : Cx p s m args meth c cX2_goOut 7 RX2 (some .int) D A dT) {k13 : Int32 → Int32 → Int32 → Ob → Option (Int32 × Ob)} (hk13 : ∀ (l3 : Int32) (l4 : Int32) (l5 : Int32) (z3 : Ob), k13 l3 l4 l5 z3 = some res → WA p l e ({ frames := 4, cells := 0, slots := 0, locals := 81 } : Room) s m args below meth c (MQ below (QI D dT A ([wD dT a (a_p 0) (a_k 0) z0, wR dT a_p z1, wR dT a_k z2, wV dT a0 res.2]) res.1) args s 0 0 A) D A 0 0 7 13 ([wD dT a (a_p 0) (a_k 0) z0, wR dT a_p z1, wR dT a_k z2, wV dT a0 z3]) [(0, .ref (a 0)), (1, .ref (a0 0)), (2, .int l2), (3, .int l3), (4, .int l4), (5, .int l5)] []) : ∀ (l3 : Int32) (l4 : Int32) (l5 : Int32) (l6 : Int32) (z3 : Ob), f_X2_goOut_J44 k13 l2 z0 z1 z2 l3 l4 l5 l6 z3 = some res → WA p l e ({ frames := 4, cells := 0, slots := 0, locals := 81 } : Room) s m args below meth c (MQ below (QI D dT A ([wD dT a (a_p 0) (a_k 0) z0, wR dT a_p z1, wR dT a_k z2, wV dT a0 res.2]) res.1) args s 0 0 A) D A 0 0 7 44 ([wD dT a (a_p 0) (a_k 0) z0, wR dT a_p z1, wR dT a_k z2, wV dT a0 z3]) [(0, .ref (a 0)), (1, .ref (a0 0)), (2, .int l2), (3, .int l3), (4, .int l4), (5, .int l5), (6, .int l6)] [] := by
  intro l3 l4 l5 l6 z3 hf
  unfold f_X2_goOut_J44 at hf
  refine wa_aload_n C 1 45 dX2_goOut_44 rfl rfl ?_
  refine wa_get C 48 3 0 8 dX2_goOut_45 rfl iX10 q89 rfl (Nat.le_of_ble_eq_true rfl) rfl rfl rfl ?_
  refine wa_iload C 5 50 dX2_goOut_48 rfl rfl ?_
  refine wa_dup2 C 51 dX2_goOut_50 rfl rfl rfl ?_
  obtain ⟨g8, hf⟩ := grd_ex hf
  refine wa_iald C 52 3 6 dX2_goOut_51 rfl rfl rfl (vi_in g8) ?_
  refine wa_iconst (v := 1) C 53 dX2_goOut_52 rfl rfl ?_
  refine wa_isub C 54 dX2_goOut_53 rfl ?_
  obtain ⟨g9, hf⟩ := grd_ex hf
  obtain ⟨y10, ey10, hf⟩ := bnd_ex hf
  refine wa_iast (ws' := [wD dT a (a_p 0) (a_k 0) z0, wR dT a_p z1, wR dT a_k z2, wV dT a0 y10]) C 55 3 6 dX2_goOut_54 rfl rfl rfl (vi_in g9) (by rw [ey10]; rfl) ?_
  refine wa_aload_n C 1 56 dX2_goOut_55 rfl rfl ?_
  refine wa_iload C 6 58 dX2_goOut_56 rfl rfl ?_
  refine wa_iload_n C 3 59 dX2_goOut_58 rfl rfl ?_
  obtain ⟨q11, hq11, hf⟩ := bind_ex hf
  refine wa_callVv (b1 := 3) (q1 := 0) (ci := 10) (ws' := [wD dT a (a_p 0) (a_k 0) z0, wR dT a_p z1, wR dT a_k z2, wV dT a0 q11]) (As := [.int l6, .int l3]) C 62 dX2_goOut_59 rfl kv_X2_108 (c_X10_enter hq11) ⟨rfl, rfl⟩ ⟨Nat.le_of_ble_eq_true rfl, Nat.le_of_ble_eq_true rfl⟩ rfl rfl rfl [3] [0, 1, 2] [0, 1, 2, 3] rfl rfl rfl rfl (by decide) rfl rfl rfl rfl ⟨Nat.zero_le _, Nat.zero_le _⟩ (Nat.le_of_ble_eq_true rfl) ?_
  refine wa_aload_n C 1 63 dX2_goOut_62 rfl rfl ?_
  refine wa_get C 66 3 0 7 dX2_goOut_63 rfl iX10 q84 rfl (Nat.le_of_ble_eq_true rfl) rfl rfl rfl ?_
  refine wa_iload C 6 68 dX2_goOut_66 rfl rfl ?_
  refine wa_dup2 C 69 dX2_goOut_68 rfl rfl rfl ?_
  obtain ⟨g12, hf⟩ := grd_ex hf
  refine wa_iald C 70 3 5 dX2_goOut_69 rfl rfl rfl (vi_in g12) ?_
  refine wa_iconst (v := 1) C 71 dX2_goOut_70 rfl rfl ?_
  refine wa_iadd C 72 dX2_goOut_71 rfl ?_
  obtain ⟨g13, hf⟩ := grd_ex hf
  obtain ⟨y14, ey14, hf⟩ := bnd_ex hf
  refine wa_iast (ws' := [wD dT a (a_p 0) (a_k 0) z0, wR dT a_p z1, wR dT a_k z2, wV dT a0 y14]) C 73 3 5 dX2_goOut_72 rfl rfl rfl (vi_in g13) (by rw [ey14]; rfl) ?_
  refine wa_aload_n C 1 74 dX2_goOut_73 rfl rfl ?_
  refine wa_get C 77 3 0 6 dX2_goOut_74 rfl iX10 q82 rfl (Nat.le_of_ble_eq_true rfl) rfl rfl rfl ?_
  refine wa_iload C 6 79 dX2_goOut_77 rfl rfl ?_
  refine wa_aload_n C 1 80 dX2_goOut_79 rfl rfl ?_
  refine wa_get C 83 3 0 2 dX2_goOut_80 rfl iX10 q62 rfl (Nat.le_of_ble_eq_true rfl) rfl rfl rfl ?_
  refine wa_iconst (v := 1) C 84 dX2_goOut_83 rfl rfl ?_
  refine wa_iadd C 85 dX2_goOut_84 rfl ?_
  obtain ⟨g15, hf⟩ := grd_ex hf
  obtain ⟨y16, ey16, hf⟩ := bnd_ex hf
  refine wa_iast (ws' := [wD dT a (a_p 0) (a_k 0) z0, wR dT a_p z1, wR dT a_k z2, wV dT a0 y16]) C 86 3 4 dX2_goOut_85 rfl rfl rfl (vi_in g15) (by rw [ey16]; rfl) ?_
  refine wa_aload_n C 1 87 dX2_goOut_86 rfl rfl ?_
  refine wa_get C 90 3 0 9 dX2_goOut_87 rfl iX10 q94 rfl (Nat.le_of_ble_eq_true rfl) rfl rfl rfl ?_
  refine wa_iload_n C 3 91 dX2_goOut_90 rfl rfl ?_
  refine wa_aload_n C 1 92 dX2_goOut_91 rfl rfl ?_
  refine wa_get C 95 3 0 2 dX2_goOut_92 rfl iX10 q62 rfl (Nat.le_of_ble_eq_true rfl) rfl rfl rfl ?_
  refine wa_iconst (v := 1) C 96 dX2_goOut_95 rfl rfl ?_
  refine wa_iadd C 97 dX2_goOut_96 rfl ?_
  obtain ⟨g17, hf⟩ := grd_ex hf
  obtain ⟨y18, ey18, hf⟩ := bnd_ex hf
  refine wa_iast (ws' := [wD dT a (a_p 0) (a_k 0) z0, wR dT a_p z1, wR dT a_k z2, wV dT a0 y18]) C 98 3 7 dX2_goOut_97 rfl rfl rfl (vi_in g17) (by rw [ey18]; rfl) ?_
  refine wa_iload C 4 100 dX2_goOut_98 rfl rfl ?_
  refine wa_iconst (v := 1) C 101 dX2_goOut_100 rfl rfl ?_
  refine wa_iload C 6 103 dX2_goOut_101 rfl rfl ?_
  refine wa_ishl C 104 dX2_goOut_103 rfl ?_
  refine wa_ior C 105 dX2_goOut_104 rfl ?_
  obtain ⟨x19, ex19, hf⟩ := bnd_ex hf
  refine wa_topi ex19 ?_
  refine wa_istore (lv' := [(0, .ref (a 0)), (1, .ref (a0 0)), (2, .int l2), (3, .int l3), (4, .int x19), (5, .int l5), (6, .int l6)]) C [1, 2, 3, 4, 0, 5, 6] 107 dX2_goOut_105 rfl (Nat.le_of_ble_eq_true rfl) rfl ?_
  obtain ⟨x20, ex20, hf⟩ := bnd_ex hf
  refine wa_iinc (v := x20) (lv' := [(0, .ref (a 0)), (1, .ref (a0 0)), (2, .int l2), (3, .int l3), (4, .int x19), (5, .int x20), (6, .int l6)]) C 5 [1, 2, 3, 4, 5, 0, 6] 110 dX2_goOut_107 rfl rfl (by rw [ex20]; rfl) (Nat.le_of_ble_eq_true rfl) rfl ?_
  refine wa_goto C 13 dX2_goOut_110 rfl ?_
  refine wa_lv (lv' := [(0, .ref (a 0)), (1, .ref (a0 0)), (2, .int l2), (3, .int l3), (4, .int x19), (5, .int x20)]) [0, 1, 2, 3, 4, 5] rfl ?_
  exact hk13 l3 x19 x20 y18 hf
set_option maxRecDepth 20000 in
theorem w_X2_goOut_L13 {p : Program} {l : Launch} {e : Env} {s : State} {m : MethodId} {args : Array Value} {below : List Frame} {meth : Method} {c : Code} {D : va_G} {A : Nat → Prop} {dT : Nat → ClassId} {a : Nat → Nat} {a_p : Nat → Nat} {a_k : Nat → Nat} {a0 : Nat → Nat} {res : Int32 × Ob} {l2 : Int32} {z0 : Ob} {z1 : Ob} {z2 : Ob} (C : Cx p s m args meth c cX2_goOut 7 RX2 (some .int) D A dT) : ∀ (n : Nat) (l3 : Int32) (l4 : Int32) (l5 : Int32) (z3 : Ob), f_X2_goOut_L13 l2 z0 z1 z2 n l3 l4 l5 z3 = some res → WA p l e ({ frames := 4, cells := 0, slots := 0, locals := 81 } : Room) s m args below meth c (MQ below (QI D dT A ([wD dT a (a_p 0) (a_k 0) z0, wR dT a_p z1, wR dT a_k z2, wV dT a0 res.2]) res.1) args s 0 0 A) D A 0 0 7 13 ([wD dT a (a_p 0) (a_k 0) z0, wR dT a_p z1, wR dT a_k z2, wV dT a0 z3]) [(0, .ref (a 0)), (1, .ref (a0 0)), (2, .int l2), (3, .int l3), (4, .int l4), (5, .int l5)] [] := by
  intro n
  induction n with
  | zero => intro l3 l4 l5 z3 hf; cases hf
  | succ n ih =>
    intro l3 l4 l5 z3 hf
    unfold f_X2_goOut_L13 at hf
    refine wa_iload C 5 15 dX2_goOut_13 rfl rfl ?_
    refine wa_iload_n C 2 16 dX2_goOut_15 rfl rfl ?_
    refine wa_icmp_ge C 113 19 dX2_goOut_16 rfl rfl (fun c2 => ?_) (fun c2 => ?_)
    · replace hf := ite_t hf c2
      refine wa_iload C 4 115 dX2_goOut_113 rfl rfl ?_
      cases hf
      exact wa_iret C dX2_goOut_115 rfl rfl
    · replace hf := ite_f hf c2
      refine wa_aload_n C 0 20 dX2_goOut_19 rfl rfl ?_
      refine wa_get C 23 0 0 2 dX2_goOut_20 rfl iX2 q209 rfl (Nat.le_of_ble_eq_true rfl) rfl rfl rfl ?_
      refine wa_iload C 5 25 dX2_goOut_23 rfl rfl ?_
      obtain ⟨g3, hf⟩ := grd_ex hf
      refine wa_iald C 26 0 1 dX2_goOut_25 rfl rfl rfl (vi_in g3) ?_
      obtain ⟨x4, ex4, hf⟩ := bnd_ex hf
      refine wa_topi ex4 ?_
      refine wa_istore (lv' := [(0, .ref (a 0)), (1, .ref (a0 0)), (2, .int l2), (3, .int l3), (4, .int l4), (5, .int l5), (6, .int x4)]) C [1, 2, 3, 4, 5, 6, 0] 28 dX2_goOut_26 rfl (Nat.le_of_ble_eq_true rfl) rfl ?_
      refine wa_iload C 6 30 dX2_goOut_28 rfl rfl ?_
      refine wa_iconst (v := (-1)) C 31 dX2_goOut_30 rfl rfl ?_
      refine wa_icmp_eq C 107 34 dX2_goOut_31 rfl rfl (fun c5 => ?_) (fun c5 => ?_)
      · replace hf := ite_t hf c5
        obtain ⟨x6, ex6, hf⟩ := bnd_ex hf
        refine wa_iinc (v := x6) (lv' := [(0, .ref (a 0)), (1, .ref (a0 0)), (2, .int l2), (3, .int l3), (4, .int l4), (5, .int x6), (6, .int x4)]) C 5 [1, 2, 3, 4, 5, 0, 6] 110 dX2_goOut_107 rfl rfl (by rw [ex6]; rfl) (Nat.le_of_ble_eq_true rfl) rfl ?_
        refine wa_goto C 13 dX2_goOut_110 rfl ?_
        refine wa_lv (lv' := [(0, .ref (a 0)), (1, .ref (a0 0)), (2, .int l2), (3, .int l3), (4, .int l4), (5, .int x6)]) [0, 1, 2, 3, 4, 5] rfl ?_
        exact ih l3 l4 x6 z3 hf
      · replace hf := ite_f hf c5
        refine wa_iload_n C 3 35 dX2_goOut_34 rfl rfl ?_
        refine wa_iconst (v := (-1)) C 36 dX2_goOut_35 rfl rfl ?_
        refine wa_icmp_ne C 44 39 dX2_goOut_36 rfl rfl (fun c7 => ?_) (fun c7 => ?_)
        · replace hf := ite_f hf c7
          exact w_X2_goOut_J44 C ih l3 l4 l5 x4 z3 hf
        · replace hf := ite_t hf c7
          refine wa_aload_n C 1 40 dX2_goOut_39 rfl rfl ?_
          obtain ⟨q21, hq21, hf⟩ := bind_ex hf
          refine wa_callVi (b1 := 3) (q1 := 0) (ci := 10) (ws' := [wD dT a (a_p 0) (a_k 0) z0, wR dT a_p z1, wR dT a_k z2, wV dT a0 q21.2]) (As := []) C 43 dX2_goOut_40 rfl kv_X2_104 (c_X10_addHouse hq21) ⟨rfl, rfl⟩ ⟨Nat.le_of_ble_eq_true rfl, Nat.le_of_ble_eq_true rfl⟩ rfl rfl rfl [3] [0, 1, 2] [0, 1, 2, 3] rfl rfl rfl rfl (by decide) rfl rfl rfl rfl ⟨Nat.zero_le _, Nat.zero_le _⟩ (Nat.le_of_ble_eq_true rfl) ?_
          refine wa_istore_n (lv' := [(0, .ref (a 0)), (1, .ref (a0 0)), (2, .int l2), (3, .int q21.1), (4, .int l4), (5, .int l5), (6, .int x4)]) C [1, 2, 3, 0, 4, 5, 6] 44 dX2_goOut_43 rfl (Nat.le_of_ble_eq_true rfl) rfl ?_
          exact w_X2_goOut_J44 C ih q21.1 l4 l5 x4 q21.2 hf
set_option maxRecDepth 20000 in
theorem c_X2_goOut {l : Launch} {D : va_G} {dT : Nat → ClassId} {a : Nat → Nat} {a_p : Nat → Nat} {a_k : Nat → Nat} {a0 : Nat → Nat} {v : Ob} {v_p : Ob} {v_k : Ob} {v0 : Ob} {res : Int32 × Ob} (hf : f_X2_goOut v v_p v_k v0 = some res) : CTi l yX2_goOut cX2_goOut 7 (some .int) ({ frames := 4, cells := 0, slots := 0, locals := 81 } : Room) D dT [.ref (a 0), .ref (a0 0)] ([wD dT a (a_p 0) (a_k 0) v, wR dT a_p v_p, wR dT a_k v_k, wV dT a0 v0]) ([wD dT a (a_p 0) (a_k 0) v, wR dT a_p v_p, wR dT a_k v_k, wV dT a0 res.2]) res.1 := by
  refine CTi.of (by decide) (Nat.le_of_ble_eq_true rfl) rfl ?_
  intro p e s m args below meth c A C
  unfold f_X2_goOut at hf
  refine wa_aload_n C 1 1 dX2_goOut_0 rfl rfl ?_
  refine wa_get C 4 3 0 1 dX2_goOut_1 rfl iX10 q59 rfl (Nat.le_of_ble_eq_true rfl) rfl rfl rfl ?_
  obtain ⟨x1, ex1, hf⟩ := bnd_ex hf
  refine wa_topi ex1 ?_
  refine wa_istore_n (lv' := [(0, .ref (a 0)), (1, .ref (a0 0)), (2, .int x1)]) C [1, 2, 0] 5 dX2_goOut_4 rfl (Nat.le_of_ble_eq_true rfl) rfl ?_
  refine wa_iconst (v := (-1)) C 6 dX2_goOut_5 rfl rfl ?_
  refine wa_istore_n (lv' := [(0, .ref (a 0)), (1, .ref (a0 0)), (2, .int x1), (3, .int (-1 : Int32))]) C [1, 2, 3, 0] 7 dX2_goOut_6 rfl (Nat.le_of_ble_eq_true rfl) rfl ?_
  refine wa_iconst (v := 0) C 8 dX2_goOut_7 rfl rfl ?_
  refine wa_istore (lv' := [(0, .ref (a 0)), (1, .ref (a0 0)), (2, .int x1), (3, .int (-1 : Int32)), (4, .int (0 : Int32))]) C [1, 2, 3, 4, 0] 10 dX2_goOut_8 rfl (Nat.le_of_ble_eq_true rfl) rfl ?_
  refine wa_iconst (v := 0) C 11 dX2_goOut_10 rfl rfl ?_
  refine wa_istore (lv' := [(0, .ref (a 0)), (1, .ref (a0 0)), (2, .int x1), (3, .int (-1 : Int32)), (4, .int (0 : Int32)), (5, .int (0 : Int32))]) C [1, 2, 3, 4, 5, 0] 13 dX2_goOut_11 rfl (Nat.le_of_ble_eq_true rfl) rfl ?_
  exact w_X2_goOut_L13 C FUEL (-1 : Int32) (0 : Int32) (0 : Int32) v0 hf
theorem kv_X2_38 : KV RX2 38 yX2_comeUp cX2_comeUp 4 none 1 := KV.mk q490 q492 qs8 q6 q493 ⟨by decide, by decide, by decide +kernel⟩
theorem kv_X2_42 : KV RX2 42 yX2_goOut cX2_goOut 7 (some .int) 1 := KV.mk q494 q496 qs9 q6 q497 ⟨by decide, by decide, by decide +kernel⟩
theorem kv_X2_52 : KV RX2 52 yX10_dropEmpty cX10_dropEmpty 5 none 0 := KV.mk q509 q510 q511 q3 q512 ⟨by decide, by decide, by decide +kernel⟩
def f_X2_pass (v : Ob) (v_p : Ob) (v_k : Ob) (v0 : Ob) (p1 : Int32) : Option (Int32 × Ob × Ob × Ob × Ob) := (f_X2_choose v v_p v_k v0 p1).bind (fun q1 => (f_X2_comeUp q1.1 q1.2.1 q1.2.2 v0).bind (fun q2 => (f_X2_goOut q1.1 q1.2.1 q1.2.2 q2).bind (fun q3 => bnd (upd q3.2.1 2 ((q3.2.1 2) + (1 : Int32)), q3.2.2) (fun y4 => (f_X10_dropEmpty y4).bind (fun q5 => some (q3.1, q1.1, q1.2.1, q1.2.2, q5))))))
set_option maxRecDepth 20000 in
theorem c_X2_pass {l : Launch} {D : va_G} {dT : Nat → ClassId} {a : Nat → Nat} {a_p : Nat → Nat} {a_k : Nat → Nat} {a0 : Nat → Nat} {v : Ob} {v_p : Ob} {v_k : Ob} {v0 : Ob} {p1 : Int32} {res : Int32 × Ob × Ob × Ob × Ob} (hf : f_X2_pass v v_p v_k v0 p1 = some res) : CTi l yX2_pass cX2_pass 4 (some .int) ({ frames := 5, cells := 0, slots := 0, locals := 107 } : Room) D dT [.ref (a 0), .ref (a0 0), .int p1] ([wD dT a (a_p 0) (a_k 0) v, wR dT a_p v_p, wR dT a_k v_k, wV dT a0 v0]) ([wD dT a (a_p 0) (a_k 0) res.2.1, wR dT a_p res.2.2.1, wR dT a_k res.2.2.2.1, wV dT a0 res.2.2.2.2]) res.1 := by
  refine CTi.of (by decide) (Nat.le_of_ble_eq_true rfl) rfl ?_
  intro p e s m args below meth c A C
  unfold f_X2_pass at hf
  refine wa_aload_n C 0 1 dX2_pass_0 rfl rfl ?_
  refine wa_aload_n C 1 2 dX2_pass_1 rfl rfl ?_
  refine wa_iload_n C 2 3 dX2_pass_2 rfl rfl ?_
  obtain ⟨q1, hq1, hf⟩ := bind_ex hf
  refine wa_callVAv (b1 := 0) (q1 := 0) (ci := 2) (As := [.ref (a0 0), .int p1]) C 6 dX2_pass_3 rfl kv_X2_34 (c_X2_choose hq1) ⟨rfl, rfl⟩ ⟨Nat.le_of_ble_eq_true rfl, Nat.le_of_ble_eq_true rfl⟩ rfl rfl rfl rfl rfl ⟨Nat.zero_le _, Nat.zero_le _⟩ (Nat.le_of_ble_eq_true rfl) ?_
  refine wa_aload_n C 0 7 dX2_pass_6 rfl rfl ?_
  refine wa_aload_n C 1 8 dX2_pass_7 rfl rfl ?_
  obtain ⟨q2, hq2, hf⟩ := bind_ex hf
  refine wa_callVAv (b1 := 0) (q1 := 0) (ci := 2) (As := [.ref (a0 0)]) C 11 dX2_pass_8 rfl kv_X2_38 (c_X2_comeUp hq2) ⟨rfl, rfl⟩ ⟨Nat.le_of_ble_eq_true rfl, Nat.le_of_ble_eq_true rfl⟩ rfl rfl rfl rfl rfl ⟨Nat.zero_le _, Nat.zero_le _⟩ (Nat.le_of_ble_eq_true rfl) ?_
  refine wa_aload_n C 0 12 dX2_pass_11 rfl rfl ?_
  refine wa_aload_n C 1 13 dX2_pass_12 rfl rfl ?_
  obtain ⟨q3, hq3, hf⟩ := bind_ex hf
  refine wa_callVAi (b1 := 0) (q1 := 0) (ci := 2) (As := [.ref (a0 0)]) C 16 dX2_pass_13 rfl kv_X2_42 (c_X2_goOut hq3) ⟨rfl, rfl⟩ ⟨Nat.le_of_ble_eq_true rfl, Nat.le_of_ble_eq_true rfl⟩ rfl rfl rfl rfl rfl ⟨Nat.zero_le _, Nat.zero_le _⟩ (Nat.le_of_ble_eq_true rfl) ?_
  refine wa_istore_n (lv' := [(0, .ref (a 0)), (1, .ref (a0 0)), (2, .int p1), (3, .int q3.1)]) C [1, 2, 3, 0] 17 dX2_pass_16 rfl (Nat.le_of_ble_eq_true rfl) rfl ?_
  refine wa_aload_n C 1 18 dX2_pass_17 rfl rfl ?_
  refine wa_dup C 19 dX2_pass_18 rfl rfl ?_
  refine wa_get C 22 3 0 2 dX2_pass_19 rfl iX10 q62 rfl (Nat.le_of_ble_eq_true rfl) rfl rfl rfl ?_
  refine wa_iconst (v := 1) C 23 dX2_pass_22 rfl rfl ?_
  refine wa_iadd C 24 dX2_pass_23 rfl ?_
  obtain ⟨y4, ey4, hf⟩ := bnd_ex hf
  refine wa_put (ws' := [wD dT a (a_p 0) (a_k 0) q1.1, wR dT a_p q1.2.1, wR dT a_k q1.2.2, wV dT a0 y4]) C 27 3 0 2 tyX10 dX2_pass_24 rfl iX10 tyX10_ok nmX10 q62 rfl (Nat.le_of_ble_eq_true rfl) rfl rfl rfl rfl rfl (Nat.le_of_ble_eq_true rfl) (by rw [ey4]; rfl) ?_
  refine wa_aload_n C 1 28 dX2_pass_27 rfl rfl ?_
  obtain ⟨q5, hq5, hf⟩ := bind_ex hf
  refine wa_callVv (b1 := 3) (q1 := 0) (ci := 10) (ws' := [wD dT a (a_p 0) (a_k 0) q1.1, wR dT a_p q1.2.1, wR dT a_k q1.2.2, wV dT a0 q5]) (As := []) C 31 dX2_pass_28 rfl kv_X2_52 (c_X10_dropEmpty hq5) ⟨rfl, rfl⟩ ⟨Nat.le_of_ble_eq_true rfl, Nat.le_of_ble_eq_true rfl⟩ rfl rfl rfl [3] [0, 1, 2] [0, 1, 2, 3] rfl rfl rfl rfl (by decide) rfl rfl rfl rfl ⟨Nat.zero_le _, Nat.zero_le _⟩ (Nat.le_of_ble_eq_true rfl) ?_
  refine wa_iload_n C 3 32 dX2_pass_31 rfl rfl ?_
  cases hf
  exact wa_iret C dX2_pass_32 rfl rfl
