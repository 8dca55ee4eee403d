theorem kv_X10_86 : KV RX10 86 yX10_old cX10_old 2 (some .int) 1 := KV.mk q1437 q475 q476 q3 q477 ⟨by decide, by decide, by decide +kernel⟩
def f_X10_oldest_L4 (z0 : Ob) : Nat → Int32 → Int32 → Option (Int32)
  | 0, _, _ => none
  | n + 1, l1, l2 => (if (z0.1 1) ≤ l2 then some (l1) else (f_X10_old z0 l2).bind (fun q2 => bnd (if l1 < q2 then q2 else l1) (fun x3 => bnd (l2 + 1) (fun x4 => f_X10_oldest_L4 z0 n x3 x4))))
def f_X10_oldest (v : Ob) : Option (Int32) := f_X10_oldest_L4 v FUEL (-1 : Int32) (0 : Int32)
set_option maxRecDepth 20000 in
theorem w_X10_oldest_L4 {p : Program} {l : Launch} {e : Env} {s : State} {m : MethodId} {args : Array Value} {below : List Frame} {meth : Method} {c : Code} {D : va_G} {A : Nat → Prop} {dT : Nat → ClassId} {a : Nat → Nat} {res : Int32} {z0 : Ob} (C : Cx p s m args meth c cX10_oldest 3 RX10 (some .int) D A dT) : ∀ (n : Nat) (l1 : Int32) (l2 : Int32), f_X10_oldest_L4 z0 n l1 l2 = some res → WA p l e ({ frames := 3, cells := 0, slots := 0, locals := 60 } : Room) s m args below meth c (MQ below (QI D dT A ([wV dT a z0]) res) args s 0 0 A) D A 0 0 3 4 ([wV dT a z0]) [(0, .ref (a 0)), (1, .int l1), (2, .int l2)] [] := by
  intro n
  induction n with
  | zero => intro l1 l2 hf; cases hf
  | succ n ih =>
    intro l1 l2 hf
    unfold f_X10_oldest_L4 at hf
    refine wa_iload_n C 2 5 dX10_oldest_4 rfl rfl ?_
    refine wa_aload_n C 0 6 dX10_oldest_5 rfl rfl ?_
    refine wa_get C 9 0 0 1 dX10_oldest_6 rfl iX10 q56 rfl (Nat.le_of_ble_eq_true rfl) rfl rfl rfl ?_
    refine wa_icmp_ge C 28 12 dX10_oldest_9 rfl rfl (fun c1 => ?_) (fun c1 => ?_)
    · replace hf := ite_t hf c1
      refine wa_iload_n C 1 29 dX10_oldest_28 rfl rfl ?_
      cases hf
      exact wa_iret C dX10_oldest_29 rfl rfl
    · replace hf := ite_f hf c1
      refine wa_iload_n C 1 13 dX10_oldest_12 rfl rfl ?_
      refine wa_aload_n C 0 14 dX10_oldest_13 rfl rfl ?_
      refine wa_iload_n C 2 15 dX10_oldest_14 rfl rfl ?_
      obtain ⟨q2, hq2, hf⟩ := bind_ex hf
      refine wa_callVAi (b1 := 0) (q1 := 0) (ci := 10) (As := [.int l2]) C 18 dX10_oldest_15 rfl kv_X10_86 (c_X10_old hq2) ⟨rfl, rfl⟩ ⟨Nat.le_of_ble_eq_true rfl, Nat.le_of_ble_eq_true rfl⟩ rfl rfl rfl rfl rfl ⟨Nat.zero_le _, Nat.zero_le _⟩ (Nat.le_of_ble_eq_true rfl) ?_
      refine wa_mmax C 21 dX10_oldest_18 rfl q944 q740 q18 q741 (Nat.le_of_ble_eq_true rfl) (Nat.le_of_ble_eq_true rfl) ⟨Nat.zero_le _, Nat.zero_le _⟩ ?_
      obtain ⟨x3, ex3, hf⟩ := bnd_ex hf
      refine wa_topi ex3 ?_
      refine wa_istore_n (lv' := [(0, .ref (a 0)), (1, .int x3), (2, .int l2)]) C [1, 0, 2] 22 dX10_oldest_21 rfl (Nat.le_of_ble_eq_true rfl) rfl ?_
      obtain ⟨x4, ex4, hf⟩ := bnd_ex hf
      refine wa_iinc (v := x4) (lv' := [(0, .ref (a 0)), (1, .int x3), (2, .int x4)]) C 2 [1, 2, 0] 25 dX10_oldest_22 rfl rfl (by rw [ex4]; rfl) (Nat.le_of_ble_eq_true rfl) rfl ?_
      refine wa_goto C 4 dX10_oldest_25 rfl ?_
      exact ih x3 x4 hf
set_option maxRecDepth 20000 in
theorem c_X10_oldest {l : Launch} {D : va_G} {dT : Nat → ClassId} {a : Nat → Nat} {v : Ob} {res : Int32} (hf : f_X10_oldest v = some res) : CTi l yX10_oldest cX10_oldest 3 (some .int) ({ frames := 3, cells := 0, slots := 0, locals := 60 } : Room) D dT [.ref (a 0)] ([wV dT a v]) ([wV dT a v]) res := by
  refine CTi.of (by decide) (Nat.le_of_ble_eq_true rfl) rfl ?_
  intro p e s m args below meth c A C
  unfold f_X10_oldest at hf
  refine wa_iconst (v := (-1)) C 1 dX10_oldest_0 rfl rfl ?_
  refine wa_istore_n (lv' := [(0, .ref (a 0)), (1, .int (-1 : Int32))]) C [1, 0] 2 dX10_oldest_1 rfl (Nat.le_of_ble_eq_true rfl) rfl ?_
  refine wa_iconst (v := 0) C 3 dX10_oldest_2 rfl rfl ?_
  refine wa_istore_n (lv' := [(0, .ref (a 0)), (1, .int (-1 : Int32)), (2, .int (0 : Int32))]) C [1, 2, 0] 4 dX10_oldest_3 rfl (Nat.le_of_ble_eq_true rfl) rfl ?_
  exact w_X10_oldest_L4 C FUEL (-1 : Int32) (0 : Int32) hf
def f_X7_clear (v : Ob) : Option (Ob) := bnd (upd v.1 0 (0 : Int32), v.2) (fun y1 => bnd (upd y1.1 1 (0 : Int32), y1.2) (fun y2 => some (y2)))
set_option maxRecDepth 20000 in
theorem c_X7_clear {l : Launch} {D : va_G} {dT : Nat → ClassId} {a : Nat → Nat} {v : Ob} {res : Ob} (hf : f_X7_clear v = some res) : CTv l yX7_clear cX7_clear 1 none ({ frames := 0, cells := 0, slots := 0, locals := 0 } : Room) D dT [.ref (a 0)] ([wR dT a v]) ([wR dT a res]) := by
  refine CTv.of (by decide) (Nat.le_of_ble_eq_true rfl) rfl ?_
  intro p e s m args below meth c A C
  unfold f_X7_clear at hf
  refine wa_aload_n C 0 1 dX7_clear_0 rfl rfl ?_
  refine wa_iconst (v := 0) C 2 dX7_clear_1 rfl rfl ?_
  obtain ⟨y1, ey1, hf⟩ := bnd_ex hf
  refine wa_put (ws' := [wR dT a y1]) C 5 0 0 0 tyX7 dX7_clear_2 rfl iX7 tyX7_ok nmX7 q142 rfl (Nat.le_of_ble_eq_true rfl) rfl rfl rfl rfl rfl (Nat.le_of_ble_eq_true rfl) (by rw [ey1]; rfl) ?_
  refine wa_aload_n C 0 6 dX7_clear_5 rfl rfl ?_
  refine wa_iconst (v := 0) C 7 dX7_clear_6 rfl rfl ?_
  obtain ⟨y2, ey2, hf⟩ := bnd_ex hf
  refine wa_put (ws' := [wR dT a y2]) C 10 0 0 1 tyX7 dX7_clear_7 rfl iX7 tyX7_ok nmX7 q145 rfl (Nat.le_of_ble_eq_true rfl) rfl rfl rfl rfl rfl (Nat.le_of_ble_eq_true rfl) (by rw [ey2]; rfl) ?_
  cases hf
  exact wa_vret C dX7_clear_10 rfl
def f_X7_copyFrom (v : Ob) (v0 : Ob) : Option (Ob) := grd (bz (v0.1 0)) (bnd (upd v.1 0 (v0.1 0), v.2) (fun y2 => bnd (upd y2.1 1 (v0.1 1), y2.2) (fun y3 => grd (cpg (0 : Int32) (0 : Int32) (v0.1 1) 700 700) (bnd (y3.1, sA y3.2 1 (va_cpy (v0.2 1) (y3.2 1) ((0 : Int32)).toNatClampNeg ((0 : Int32)).toNatClampNeg ((v0.1 1)).toNatClampNeg)) (fun y5 => some (y5))))))
set_option maxRecDepth 20000 in
theorem c_X7_copyFrom {l : Launch} {D : va_G} {dT : Nat → ClassId} {a : Nat → Nat} {a0 : Nat → Nat} {v : Ob} {v0 : Ob} {res : Ob} (hf : f_X7_copyFrom v v0 = some res) : CTv l yX7_copyFrom cX7_copyFrom 2 none ({ frames := 3, cells := 0, slots := 0, locals := 60 } : Room) D dT [.ref (a 0), .ref (a0 0)] ([wR dT a v, wR dT a0 v0]) ([wR dT a res, wR dT a0 v0]) := by
  refine CTv.of (by decide) (Nat.le_of_ble_eq_true rfl) rfl ?_
  intro p e s m args below meth c A C
  unfold f_X7_copyFrom at hf
  refine wa_aload_n C 0 1 dX7_copyFrom_0 rfl rfl ?_
  refine wa_aload_n C 1 2 dX7_copyFrom_1 rfl rfl ?_
  refine wa_get C 5 1 0 0 dX7_copyFrom_2 rfl iX7 q142 rfl (Nat.le_of_ble_eq_true rfl) rfl rfl rfl ?_
  obtain ⟨g1, hf⟩ := grd_ex hf
  obtain ⟨y2, ey2, hf⟩ := bnd_ex hf
  refine wa_put (ws' := [wR dT a y2, wR dT a0 v0]) C 8 0 0 0 tyX7 dX7_copyFrom_5 rfl iX7 tyX7_ok nmX7 q142 rfl (Nat.le_of_ble_eq_true rfl) rfl rfl rfl (bz_nar g1) (bz_fit g1) (Nat.le_of_ble_eq_true rfl) (by rw [ey2]; rfl) ?_
  refine wa_aload_n C 0 9 dX7_copyFrom_8 rfl rfl ?_
  refine wa_aload_n C 1 10 dX7_copyFrom_9 rfl rfl ?_
  refine wa_get C 13 1 0 1 dX7_copyFrom_10 rfl iX7 q145 rfl (Nat.le_of_ble_eq_true rfl) rfl rfl rfl ?_
  obtain ⟨y3, ey3, hf⟩ := bnd_ex hf
  refine wa_put (ws' := [wR dT a y3, wR dT a0 v0]) C 16 0 0 1 tyX7 dX7_copyFrom_13 rfl iX7 tyX7_ok nmX7 q145 rfl (Nat.le_of_ble_eq_true rfl) rfl rfl rfl rfl rfl (Nat.le_of_ble_eq_true rfl) (by rw [ey3]; rfl) ?_
  refine wa_aload_n C 1 17 dX7_copyFrom_16 rfl rfl ?_
  refine wa_get C 20 1 0 2 dX7_copyFrom_17 rfl iX7 q146 rfl (Nat.le_of_ble_eq_true rfl) rfl rfl rfl ?_
  refine wa_iconst (v := 0) C 21 dX7_copyFrom_20 rfl rfl ?_
  refine wa_aload_n C 0 22 dX7_copyFrom_21 rfl rfl ?_
  refine wa_get C 25 0 0 2 dX7_copyFrom_22 rfl iX7 q146 rfl (Nat.le_of_ble_eq_true rfl) rfl rfl rfl ?_
  refine wa_iconst (v := 0) C 26 dX7_copyFrom_25 rfl rfl ?_
  refine wa_aload_n C 1 27 dX7_copyFrom_26 rfl rfl ?_
  refine wa_get C 30 1 0 1 dX7_copyFrom_27 rfl iX7 q145 rfl (Nat.le_of_ble_eq_true rfl) rfl rfl rfl ?_
  obtain ⟨g4, hf⟩ := grd_ex hf
  obtain ⟨y5, ey5, hf⟩ := bnd_ex hf
  refine wa_copyi (ws' := [wR dT a y5, wR dT a0 v0]) C 33 1 1 0 1 dX7_copyFrom_30 rfl q931 q448 q447 q24 rfl rfl rfl rfl g4 (Nat.le_of_ble_eq_true rfl) (Nat.le_of_ble_eq_true rfl) (by rw [ey5]; rfl) ?_
  cases hf
  exact wa_vret C dX7_copyFrom_33 rfl
def f_X7_add (v : Ob) (p0 : Int32) : Option (Ob) := (if (700 : Int32) ≤ (v.1 1) then some (v) else grd (vi (v.1 1) 700) (bnd (v.1, uA v.2 1 ((v.1 1)).toNatClampNeg p0) (fun y3 => bnd (upd y3.1 1 ((y3.1 1) + (1 : Int32)), y3.2) (fun y4 => some (y4)))))
set_option maxRecDepth 20000 in
theorem c_X7_add {l : Launch} {D : va_G} {dT : Nat → ClassId} {a : Nat → Nat} {v : Ob} {p0 : Int32} {res : Ob} (hf : f_X7_add v p0 = some res) : CTv l yX7_add cX7_add 2 none ({ frames := 0, cells := 0, slots := 0, locals := 0 } : Room) D dT [.ref (a 0), .int p0] ([wR dT a v]) ([wR dT a res]) := by
  refine CTv.of (by decide) (Nat.le_of_ble_eq_true rfl) rfl ?_
  intro p e s m args below meth c A C
  unfold f_X7_add at hf
  refine wa_aload_n C 0 1 dX7_add_0 rfl rfl ?_
  refine wa_get C 4 0 0 1 dX7_add_1 rfl iX7 q145 rfl (Nat.le_of_ble_eq_true rfl) rfl rfl rfl ?_
  refine wa_aload_n C 0 5 dX7_add_4 rfl rfl ?_
  refine wa_get C 8 0 0 2 dX7_add_5 rfl iX7 q146 rfl (Nat.le_of_ble_eq_true rfl) rfl rfl rfl ?_
  refine wa_alen (v := 700) C 9 0 1 0 dX7_add_8 rfl rfl rfl rfl rfl ?_
  refine wa_icmp_ge C 32 12 dX7_add_9 rfl rfl (fun c1 => ?_) (fun c1 => ?_)
  · replace hf := ite_t hf c1
    cases hf
    exact wa_vret C dX7_add_32 rfl
  · replace hf := ite_f hf c1
    refine wa_aload_n C 0 13 dX7_add_12 rfl rfl ?_
    refine wa_get C 16 0 0 2 dX7_add_13 rfl iX7 q146 rfl (Nat.le_of_ble_eq_true rfl) rfl rfl rfl ?_
    refine wa_aload_n C 0 17 dX7_add_16 rfl rfl ?_
    refine wa_get C 20 0 0 1 dX7_add_17 rfl iX7 q145 rfl (Nat.le_of_ble_eq_true rfl) rfl rfl rfl ?_
    refine wa_iload_n C 1 21 dX7_add_20 rfl rfl ?_
    obtain ⟨g2, hf⟩ := grd_ex hf
    obtain ⟨y3, ey3, hf⟩ := bnd_ex hf
    refine wa_iast (ws' := [wR dT a y3]) C 22 0 1 dX7_add_21 rfl rfl rfl (vi_in g2) (by rw [ey3]; rfl) ?_
    refine wa_aload_n C 0 23 dX7_add_22 rfl rfl ?_
    refine wa_dup C 24 dX7_add_23 rfl rfl ?_
    refine wa_get C 27 0 0 1 dX7_add_24 rfl iX7 q145 rfl (Nat.le_of_ble_eq_true rfl) rfl rfl rfl ?_
    refine wa_iconst (v := 1) C 28 dX7_add_27 rfl rfl ?_
    refine wa_iadd C 29 dX7_add_28 rfl ?_
    obtain ⟨y4, ey4, hf⟩ := bnd_ex hf
    refine wa_put (ws' := [wR dT a y4]) C 32 0 0 1 tyX7 dX7_add_29 rfl iX7 tyX7_ok nmX7 q145 rfl (Nat.le_of_ble_eq_true rfl) rfl rfl rfl rfl rfl (Nat.le_of_ble_eq_true rfl) (by rw [ey4]; rfl) ?_
    cases hf
    exact wa_vret C dX7_add_32 rfl
def f_X7_of_J351 (k4 : Int32 → Int32 → Ob → Option (Int32 × Ob)) (n0 : Nat) (z1 : (Nat → Int32)) (l2 : Int32) (l3 : Int32) (l5 : Int32) (l6 : Int32) (z0 : Ob) : Option (Int32 × Ob) := (if l5 = 0 then (if l6 = 0 then grd (vi (l2 - (1 : Int32)) 40) (bnd (z0.1, uA z0.2 2 ((l2 - (1 : Int32))).toNatClampNeg (0 : Int32)) (fun y35 => bnd (l3 + 1) (fun x36 => k4 l2 x36 y35))) else grd (vi (l2 - (1 : Int32)) 40) (bnd (z0.1, uA z0.2 2 ((l2 - (1 : Int32))).toNatClampNeg (1 : Int32)) (fun y38 => bnd (l3 + 1) (fun x39 => k4 l2 x39 y38)))) else grd (vi (l2 - (1 : Int32)) 40) (bnd (z0.1, uA z0.2 2 ((l2 - (1 : Int32))).toNatClampNeg (1 : Int32)) (fun y31 => bnd (l3 + 1) (fun x32 => k4 l2 x32 y31))))
def f_X7_of_J106 (k4 : Int32 → Int32 → Ob → Option (Int32 × Ob)) (n0 : Nat) (z1 : (Nat → Int32)) (l2 : Int32) (l3 : Int32) (l4 : Int32) (z0 : Ob) : Option (Int32 × Ob) := (if l2 ≤ (1 : Int32) then bnd (l3 + 1) (fun x9 => k4 l2 x9 z0) else bnd (l2 + (-1)) (fun x10 => grd (vi (x10 - (1 : Int32)) 40) (bnd (z0.2 2 ((x10 - (1 : Int32))).toNatClampNeg) (fun x12 => grd (vi x10 40) (bnd (z0.2 2 (x10).toNatClampNeg) (fun x14 => bnd (l4 - (20000 : Int32)) (fun x15 => (if x15 = 38 then (if x12 = 0 then grd (vi (x10 - (1 : Int32)) 40) (bnd (z0.1, uA z0.2 2 ((x10 - (1 : Int32))).toNatClampNeg (0 : Int32)) (fun y19 => bnd (l3 + 1) (fun x20 => k4 x10 x20 y19))) else (if x14 = 0 then grd (vi (x10 - (1 : Int32)) 40) (bnd (z0.1, uA z0.2 2 ((x10 - (1 : Int32))).toNatClampNeg (0 : Int32)) (fun y23 => bnd (l3 + 1) (fun x24 => k4 x10 x24 y23))) else grd (vi (x10 - (1 : Int32)) 40) (bnd (z0.1, uA z0.2 2 ((x10 - (1 : Int32))).toNatClampNeg (1 : Int32)) (fun y26 => bnd (l3 + 1) (fun x27 => k4 x10 x27 y26))))) else (if x15 = 39 then f_X7_of_J351 (k4) n0 z1 x10 l3 x12 x14 z0 else (if x15 = 40 then f_X7_of_J351 (k4) n0 z1 x10 l3 x12 x14 z0 else (if x15 = 41 then f_X7_of_J351 (k4) n0 z1 x10 l3 x12 x14 z0 else (if x15 = 42 then bnd (x12 * x14) (fun x43 => grd (vi (x10 - (1 : Int32)) 40) (bnd (z0.1, uA z0.2 2 ((x10 - (1 : Int32))).toNatClampNeg x43) (fun y45 => bnd (l3 + 1) (fun x46 => k4 x10 x46 y45)))) else (if x15 = 43 then bnd (x12 + x14) (fun x48 => grd (vi (x10 - (1 : Int32)) 40) (bnd (z0.1, uA z0.2 2 ((x10 - (1 : Int32))).toNatClampNeg x48) (fun y50 => bnd (l3 + 1) (fun x51 => k4 x10 x51 y50)))) else (if x15 = 44 then f_X7_of_J351 (k4) n0 z1 x10 l3 x12 x14 z0 else (if x15 = 45 then bnd (x12 - x14) (fun x54 => grd (vi (x10 - (1 : Int32)) 40) (bnd (z0.1, uA z0.2 2 ((x10 - (1 : Int32))).toNatClampNeg x54) (fun y56 => bnd (l3 + 1) (fun x57 => k4 x10 x57 y56)))) else (if x15 = 46 then f_X7_of_J351 (k4) n0 z1 x10 l3 x12 x14 z0 else (if x15 = 47 then (if x14 = 0 then grd (vi (x10 - (1 : Int32)) 40) (bnd (z0.1, uA z0.2 2 ((x10 - (1 : Int32))).toNatClampNeg (0 : Int32)) (fun y67 => bnd (l3 + 1) (fun x68 => k4 x10 x68 y67))) else grd (decide (¬ x14 = 0)) (bnd (x12 / x14) (fun x62 => grd (vi (x10 - (1 : Int32)) 40) (bnd (z0.1, uA z0.2 2 ((x10 - (1 : Int32))).toNatClampNeg x62) (fun y64 => bnd (l3 + 1) (fun x65 => k4 x10 x65 y64)))))) else (if x15 = 48 then f_X7_of_J351 (k4) n0 z1 x10 l3 x12 x14 z0 else (if x15 = 49 then f_X7_of_J351 (k4) n0 z1 x10 l3 x12 x14 z0 else (if x15 = 50 then f_X7_of_J351 (k4) n0 z1 x10 l3 x12 x14 z0 else (if x15 = 51 then f_X7_of_J351 (k4) n0 z1 x10 l3 x12 x14 z0 else (if x15 = 52 then f_X7_of_J351 (k4) n0 z1 x10 l3 x12 x14 z0 else (if x15 = 53 then f_X7_of_J351 (k4) n0 z1 x10 l3 x12 x14 z0 else (if x15 = 54 then f_X7_of_J351 (k4) n0 z1 x10 l3 x12 x14 z0 else (if x15 = 55 then f_X7_of_J351 (k4) n0 z1 x10 l3 x12 x14 z0 else (if x15 = 56 then f_X7_of_J351 (k4) n0 z1 x10 l3 x12 x14 z0 else (if x15 = 57 then f_X7_of_J351 (k4) n0 z1 x10 l3 x12 x14 z0 else (if x15 = 58 then f_X7_of_J351 (k4) n0 z1 x10 l3 x12 x14 z0 else (if x15 = 59 then f_X7_of_J351 (k4) n0 z1 x10 l3 x12 x14 z0 else (if x15 = 60 then (if x14 ≤ x12 then grd (vi (x10 - (1 : Int32)) 40) (bnd (z0.1, uA z0.2 2 ((x10 - (1 : Int32))).toNatClampNeg (0 : Int32)) (fun y84 => bnd (l3 + 1) (fun x85 => k4 x10 x85 y84))) else grd (vi (x10 - (1 : Int32)) 40) (bnd (z0.1, uA z0.2 2 ((x10 - (1 : Int32))).toNatClampNeg (1 : Int32)) (fun y87 => bnd (l3 + 1) (fun x88 => k4 x10 x88 y87)))) else (if x15 = 61 then (if x12 = x14 then grd (vi (x10 - (1 : Int32)) 40) (bnd (z0.1, uA z0.2 2 ((x10 - (1 : Int32))).toNatClampNeg (1 : Int32)) (fun y95 => bnd (l3 + 1) (fun x96 => k4 x10 x96 y95))) else grd (vi (x10 - (1 : Int32)) 40) (bnd (z0.1, uA z0.2 2 ((x10 - (1 : Int32))).toNatClampNeg (0 : Int32)) (fun y92 => bnd (l3 + 1) (fun x93 => k4 x10 x93 y92)))) else f_X7_of_J351 (k4) n0 z1 x10 l3 x12 x14 z0)))))))))))))))))))))))))))))))
def f_X7_of_J67 (k4 : Int32 → Int32 → Ob → Option (Int32 × Ob)) (n0 : Nat) (z1 : (Nat → Int32)) (l2 : Int32) (l3 : Int32) (l4 : Int32) (z0 : Ob) : Option (Int32 × Ob) := (if l4 = (20033 : Int32) then (if l2 ≤ 0 then f_X7_of_J106 (k4) n0 z1 l2 l3 l4 z0 else grd (vi (l2 - (1 : Int32)) 40) ((if (z0.2 2 ((l2 - (1 : Int32))).toNatClampNeg) = 0 then grd (vi (l2 - (1 : Int32)) 40) (bnd (z0.1, uA z0.2 2 ((l2 - (1 : Int32))).toNatClampNeg (1 : Int32)) (fun y104 => bnd (l3 + 1) (fun x105 => k4 l2 x105 y104))) else grd (vi (l2 - (1 : Int32)) 40) (bnd (z0.1, uA z0.2 2 ((l2 - (1 : Int32))).toNatClampNeg (0 : Int32)) (fun y101 => bnd (l3 + 1) (fun x102 => k4 l2 x102 y101)))))) else f_X7_of_J106 (k4) n0 z1 l2 l3 l4 z0)
def f_X7_of_L4 (n0 : Nat) (z1 : (Nat → Int32)) : Nat → Int32 → Int32 → Ob → Option (Int32 × Ob)
  | 0, _, _, _ => none
  | n + 1, l2, l3, z0 => (if (z0.1 1) ≤ l3 then (if l2 ≤ 0 then some ((0 : Int32), z0) else grd (vi (0 : Int32) 40) (some ((z0.2 2 ((0 : Int32)).toNatClampNeg), z0))) else grd (vi l3 700) (bnd (z0.2 1 (l3).toNatClampNeg) (fun x5 => (if (20000 : Int32) ≤ x5 then f_X7_of_J67 (f_X7_of_L4 n0 z1 n) n0 z1 l2 l3 x5 z0 else (if (40 : Int32) ≤ l2 then f_X7_of_J67 (f_X7_of_L4 n0 z1 n) n0 z1 l2 l3 x5 z0 else (if (10000 : Int32) ≤ x5 then grd (vi (x5 - (10000 : Int32)) n0) (grd (vi l2 40) (bnd (z0.1, uA z0.2 2 (l2).toNatClampNeg (z1 ((x5 - (10000 : Int32))).toNatClampNeg)) (fun y110 => bnd (l2 + 1) (fun x111 => bnd (l3 + 1) (fun x112 => f_X7_of_L4 n0 z1 n x111 x112 y110))))) else grd (vi l2 40) (bnd (z0.1, uA z0.2 2 (l2).toNatClampNeg x5) (fun y114 => bnd (l2 + 1) (fun x115 => bnd (l3 + 1) (fun x116 => f_X7_of_L4 n0 z1 n x115 x116 y114))))))))))
def f_X7_of (v : Ob) (u0 : (Nat → Int32)) (n0 : Nat) : Option (Int32 × Ob) := f_X7_of_L4 n0 u0 FUEL (0 : Int32) (0 : Int32) v
set_option maxRecDepth 20000 in
theorem w_X7_of_J351 {p : Program} {l : Launch} {e : Env} {s : State} {m : MethodId} {args : Array Value} {below : List Frame} {meth : Method} {c : Code} {D : va_G} {A : Nat → Prop} {dT : Nat → ClassId} {a : Nat → Nat} {b0 : Nat} {n0 : Nat} {res : Int32 × Ob} {z1 : (Nat → Int32)} (C : Cx p s m args meth c cX7_of 8 RX7 (some .int) D A dT) {k4 : Int32 → Int32 → Ob → Option (Int32 × Ob)} (hk4 : ∀ (l2 : Int32) (l3 : Int32) (z0 : Ob), k4 l2 l3 z0 = some res → WA p l e ({ frames := 0, cells := 0, slots := 0, locals := 0 } : Room) s m args below meth c (MQ below (QI D dT A ([wR dT a res.2, [(b0, .inl (dT 0, n0, .inl z1))]]) res.1) args s 0 0 A) D A 0 0 8 4 ([wR dT a z0, [(b0, .inl (dT 0, n0, .inl z1))]]) [(0, .ref (a 0)), (1, .ref b0), (2, .int l2), (3, .int l3)] []) : ∀ (l2 : Int32) (l3 : Int32) (l5 : Int32) (l6 : Int32) (z0 : Ob), f_X7_of_J351 k4 n0 z1 l2 l3 l5 l6 z0 = some res → WA p l e ({ frames := 0, cells := 0, slots := 0, locals := 0 } : Room) s m args below meth c (MQ below (QI D dT A ([wR dT a res.2, [(b0, .inl (dT 0, n0, .inl z1))]]) res.1) args s 0 0 A) D A 0 0 8 351 ([wR dT a z0, [(b0, .inl (dT 0, n0, .inl z1))]]) [(0, .ref (a 0)), (1, .ref b0), (2, .int l2), (3, .int l3), (5, .int l5), (6, .int l6)] [] := by
  intro l2 l3 l5 l6 z0 hf
  unfold f_X7_of_J351 at hf
  refine wa_iload C 4 353 dX7_of_351 rfl rfl ?_
  refine wa_if_ne C 361 356 dX7_of_353 rfl rfl (fun c29 => ?_) (fun c29 => ?_)
  · replace hf := ite_f hf c29
    refine wa_iconst (v := 1) C 362 dX7_of_361 rfl rfl ?_
    refine wa_goto C 366 dX7_of_362 rfl ?_
    refine wa_istore (lv' := [(0, .ref (a 0)), (1, .ref b0), (2, .int l2), (3, .int l3), (5, .int l5), (6, .int l6), (7, .int (1 : Int32))]) C [1, 2, 3, 4, 5, 6, 0] 368 dX7_of_366 rfl (Nat.le_of_ble_eq_true rfl) rfl ?_
    refine wa_aload_n C 0 369 dX7_of_368 rfl rfl ?_
    refine wa_get C 372 0 0 3 dX7_of_369 rfl iX7 q147 rfl (Nat.le_of_ble_eq_true rfl) rfl rfl rfl ?_
    refine wa_iload_n C 2 373 dX7_of_372 rfl rfl ?_
    refine wa_iconst (v := 1) C 374 dX7_of_373 rfl rfl ?_
    refine wa_isub C 375 dX7_of_374 rfl ?_
    refine wa_iload C 6 377 dX7_of_375 rfl rfl ?_
    obtain ⟨g30, hf⟩ := grd_ex hf
    obtain ⟨y31, ey31, hf⟩ := bnd_ex hf
    refine wa_iast (ws' := [wR dT a y31, [(b0, .inl (dT 0, n0, .inl z1))]]) C 378 0 2 dX7_of_377 rfl rfl rfl (vi_in g30) (by rw [ey31]; rfl) ?_
    obtain ⟨x32, ex32, hf⟩ := bnd_ex hf
    refine wa_iinc (v := x32) (lv' := [(0, .ref (a 0)), (1, .ref b0), (2, .int l2), (3, .int x32), (5, .int l5), (6, .int l6), (7, .int (1 : Int32))]) C 3 [1, 2, 3, 0, 4, 5, 6] 381 dX7_of_378 rfl rfl (by rw [ex32]; rfl) (Nat.le_of_ble_eq_true rfl) rfl ?_
    refine wa_goto C 4 dX7_of_381 rfl ?_
    refine wa_lv (lv' := [(0, .ref (a 0)), (1, .ref b0), (2, .int l2), (3, .int x32)]) [0, 1, 2, 3] rfl ?_
    exact hk4 l2 x32 y31 hf
  · replace hf := ite_t hf c29
    refine wa_iload C 5 358 dX7_of_356 rfl rfl ?_
    refine wa_if_eq C 365 361 dX7_of_358 rfl rfl (fun c33 => ?_) (fun c33 => ?_)
    · replace hf := ite_t hf c33
      refine wa_iconst (v := 0) C 366 dX7_of_365 rfl rfl ?_
      refine wa_istore (lv' := [(0, .ref (a 0)), (1, .ref b0), (2, .int l2), (3, .int l3), (5, .int l5), (6, .int l6), (7, .int (0 : Int32))]) C [1, 2, 3, 4, 5, 6, 0] 368 dX7_of_366 rfl (Nat.le_of_ble_eq_true rfl) rfl ?_
      refine wa_aload_n C 0 369 dX7_of_368 rfl rfl ?_
      refine wa_get C 372 0 0 3 dX7_of_369 rfl iX7 q147 rfl (Nat.le_of_ble_eq_true rfl) rfl rfl rfl ?_
      refine wa_iload_n C 2 373 dX7_of_372 rfl rfl ?_
      refine wa_iconst (v := 1) C 374 dX7_of_373 rfl rfl ?_
      refine wa_isub C 375 dX7_of_374 rfl ?_
      refine wa_iload C 6 377 dX7_of_375 rfl rfl ?_
      obtain ⟨g34, hf⟩ := grd_ex hf
      obtain ⟨y35, ey35, hf⟩ := bnd_ex hf
      refine wa_iast (ws' := [wR dT a y35, [(b0, .inl (dT 0, n0, .inl z1))]]) C 378 0 2 dX7_of_377 rfl rfl rfl (vi_in g34) (by rw [ey35]; rfl) ?_
      obtain ⟨x36, ex36, hf⟩ := bnd_ex hf
      refine wa_iinc (v := x36) (lv' := [(0, .ref (a 0)), (1, .ref b0), (2, .int l2), (3, .int x36), (5, .int l5), (6, .int l6), (7, .int (0 : Int32))]) C 3 [1, 2, 3, 0, 4, 5, 6] 381 dX7_of_378 rfl rfl (by rw [ex36]; rfl) (Nat.le_of_ble_eq_true rfl) rfl ?_
      refine wa_goto C 4 dX7_of_381 rfl ?_
      refine wa_lv (lv' := [(0, .ref (a 0)), (1, .ref b0), (2, .int l2), (3, .int x36)]) [0, 1, 2, 3] rfl ?_
      exact hk4 l2 x36 y35 hf
    · replace hf := ite_f hf c33
      refine wa_iconst (v := 1) C 362 dX7_of_361 rfl rfl ?_
      refine wa_goto C 366 dX7_of_362 rfl ?_
      refine wa_istore (lv' := [(0, .ref (a 0)), (1, .ref b0), (2, .int l2), (3, .int l3), (5, .int l5), (6, .int l6), (7, .int (1 : Int32))]) C [1, 2, 3, 4, 5, 6, 0] 368 dX7_of_366 rfl (Nat.le_of_ble_eq_true rfl) rfl ?_
      refine wa_aload_n C 0 369 dX7_of_368 rfl rfl ?_
      refine wa_get C 372 0 0 3 dX7_of_369 rfl iX7 q147 rfl (Nat.le_of_ble_eq_true rfl) rfl rfl rfl ?_
      refine wa_iload_n C 2 373 dX7_of_372 rfl rfl ?_
      refine wa_iconst (v := 1) C 374 dX7_of_373 rfl rfl ?_
      refine wa_isub C 375 dX7_of_374 rfl ?_
      refine wa_iload C 6 377 dX7_of_375 rfl rfl ?_
      obtain ⟨g37, hf⟩ := grd_ex hf
      obtain ⟨y38, ey38, hf⟩ := bnd_ex hf
      refine wa_iast (ws' := [wR dT a y38, [(b0, .inl (dT 0, n0, .inl z1))]]) C 378 0 2 dX7_of_377 rfl rfl rfl (vi_in g37) (by rw [ey38]; rfl) ?_
      obtain ⟨x39, ex39, hf⟩ := bnd_ex hf
      refine wa_iinc (v := x39) (lv' := [(0, .ref (a 0)), (1, .ref b0), (2, .int l2), (3, .int x39), (5, .int l5), (6, .int l6), (7, .int (1 : Int32))]) C 3 [1, 2, 3, 0, 4, 5, 6] 381 dX7_of_378 rfl rfl (by rw [ex39]; rfl) (Nat.le_of_ble_eq_true rfl) rfl ?_
      refine wa_goto C 4 dX7_of_381 rfl ?_
      refine wa_lv (lv' := [(0, .ref (a 0)), (1, .ref b0), (2, .int l2), (3, .int x39)]) [0, 1, 2, 3] rfl ?_
      exact hk4 l2 x39 y38 hf
set_option maxRecDepth 20000 in
theorem w_X7_of_J106 {p : Program} {l : Launch} {e : Env} {s : State} {m : MethodId} {args : Array Value} {below : List Frame} {meth : Method} {c : Code} {D : va_G} {A : Nat → Prop} {dT : Nat → ClassId} {a : Nat → Nat} {b0 : Nat} {n0 : Nat} {res : Int32 × Ob} {z1 : (Nat → Int32)} (C : Cx p s m args meth c cX7_of 8 RX7 (some .int) D A dT) {k4 : Int32 → Int32 → Ob → Option (Int32 × Ob)} (hk4 : ∀ (l2 : Int32) (l3 : Int32) (z0 : Ob), k4 l2 l3 z0 = some res → WA p l e ({ frames := 0, cells := 0, slots := 0, locals := 0 } : Room) s m args below meth c (MQ below (QI D dT A ([wR dT a res.2, [(b0, .inl (dT 0, n0, .inl z1))]]) res.1) args s 0 0 A) D A 0 0 8 4 ([wR dT a z0, [(b0, .inl (dT 0, n0, .inl z1))]]) [(0, .ref (a 0)), (1, .ref b0), (2, .int l2), (3, .int l3)] []) : ∀ (l2 : Int32) (l3 : Int32) (l4 : Int32) (z0 : Ob), f_X7_of_J106 k4 n0 z1 l2 l3 l4 z0 = some res → WA p l e ({ frames := 0, cells := 0, slots := 0, locals := 0 } : Room) s m args below meth c (MQ below (QI D dT A ([wR dT a res.2, [(b0, .inl (dT 0, n0, .inl z1))]]) res.1) args s 0 0 A) D A 0 0 8 106 ([wR dT a z0, [(b0, .inl (dT 0, n0, .inl z1))]]) [(0, .ref (a 0)), (1, .ref b0), (2, .int l2), (3, .int l3), (4, .int l4)] [] := by
  intro l2 l3 l4 z0 hf
  unfold f_X7_of_J106 at hf
  refine wa_iload_n C 2 107 dX7_of_106 rfl rfl ?_
  refine wa_iconst (v := 1) C 108 dX7_of_107 rfl rfl ?_
  refine wa_icmp_le C 378 111 dX7_of_108 rfl rfl (fun c8 => ?_) (fun c8 => ?_)
  · replace hf := ite_t hf c8
    obtain ⟨x9, ex9, hf⟩ := bnd_ex hf
    refine wa_iinc (v := x9) (lv' := [(0, .ref (a 0)), (1, .ref b0), (2, .int l2), (3, .int x9), (4, .int l4)]) C 3 [1, 2, 3, 0, 4] 381 dX7_of_378 rfl rfl (by rw [ex9]; rfl) (Nat.le_of_ble_eq_true rfl) rfl ?_
    refine wa_goto C 4 dX7_of_381 rfl ?_
    refine wa_lv (lv' := [(0, .ref (a 0)), (1, .ref b0), (2, .int l2), (3, .int x9)]) [0, 1, 2, 3] rfl ?_
    exact hk4 l2 x9 z0 hf
  · replace hf := ite_f hf c8
    obtain ⟨x10, ex10, hf⟩ := bnd_ex hf
    refine wa_iinc (v := x10) (lv' := [(0, .ref (a 0)), (1, .ref b0), (2, .int x10), (3, .int l3), (4, .int l4)]) C 2 [1, 2, 0, 3, 4] 114 dX7_of_111 rfl rfl (by rw [ex10]; rfl) (Nat.le_of_ble_eq_true rfl) rfl ?_
    refine wa_aload_n C 0 115 dX7_of_114 rfl rfl ?_
    refine wa_get C 118 0 0 3 dX7_of_115 rfl iX7 q147 rfl (Nat.le_of_ble_eq_true rfl) rfl rfl rfl ?_
    refine wa_iload_n C 2 119 dX7_of_118 rfl rfl ?_
    refine wa_iconst (v := 1) C 120 dX7_of_119 rfl rfl ?_
    refine wa_isub C 121 dX7_of_120 rfl ?_
    obtain ⟨g11, hf⟩ := grd_ex hf
    refine wa_iald C 122 0 2 dX7_of_121 rfl rfl rfl (vi_in g11) ?_
    obtain ⟨x12, ex12, hf⟩ := bnd_ex hf
    refine wa_topi ex12 ?_
    refine wa_istore (lv' := [(0, .ref (a 0)), (1, .ref b0), (2, .int x10), (3, .int l3), (4, .int l4), (5, .int x12)]) C [1, 2, 3, 4, 5, 0] 124 dX7_of_122 rfl (Nat.le_of_ble_eq_true rfl) rfl ?_
    refine wa_aload_n C 0 125 dX7_of_124 rfl rfl ?_
    refine wa_get C 128 0 0 3 dX7_of_125 rfl iX7 q147 rfl (Nat.le_of_ble_eq_true rfl) rfl rfl rfl ?_
    refine wa_iload_n C 2 129 dX7_of_128 rfl rfl ?_
    obtain ⟨g13, hf⟩ := grd_ex hf
    refine wa_iald C 130 0 2 dX7_of_129 rfl rfl rfl (vi_in g13) ?_
    obtain ⟨x14, ex14, hf⟩ := bnd_ex hf
    refine wa_topi ex14 ?_
    refine wa_istore (lv' := [(0, .ref (a 0)), (1, .ref b0), (2, .int x10), (3, .int l3), (4, .int l4), (5, .int x12), (6, .int x14)]) C [1, 2, 3, 4, 5, 6, 0] 132 dX7_of_130 rfl (Nat.le_of_ble_eq_true rfl) rfl ?_
    refine wa_iload C 4 134 dX7_of_132 rfl rfl ?_
    refine wa_sipush (v := 20000) C 137 dX7_of_134 rfl rfl ?_
    refine wa_isub C 138 dX7_of_137 rfl ?_
    obtain ⟨x15, ex15, hf⟩ := bnd_ex hf
    refine wa_topi ex15 ?_
    by_cases c16 : x15 = 38
    · replace hf := ite_t hf c16
      refine wa_ts C 38 (193) 331 dX7_of_138 c16 (by decide) (by decide) rfl rfl ?_
      refine wa_iload C 5 333 dX7_of_331 rfl rfl ?_
      refine wa_if_eq C 345 336 dX7_of_333 rfl rfl (fun c17 => ?_) (fun c17 => ?_)
      · replace hf := ite_t hf c17
        refine wa_iconst (v := 0) C 346 dX7_of_345 rfl rfl ?_
        refine wa_istore (lv' := [(0, .ref (a 0)), (1, .ref b0), (2, .int x10), (3, .int l3), (4, .int l4), (5, .int x12), (6, .int x14), (7, .int (0 : Int32))]) C [1, 2, 3, 4, 5, 6, 7, 0] 348 dX7_of_346 rfl (Nat.le_of_ble_eq_true rfl) rfl ?_
        refine wa_goto C 368 dX7_of_348 rfl ?_
        refine wa_aload_n C 0 369 dX7_of_368 rfl rfl ?_
        refine wa_get C 372 0 0 3 dX7_of_369 rfl iX7 q147 rfl (Nat.le_of_ble_eq_true rfl) rfl rfl rfl ?_
        refine wa_iload_n C 2 373 dX7_of_372 rfl rfl ?_
        refine wa_iconst (v := 1) C 374 dX7_of_373 rfl rfl ?_
        refine wa_isub C 375 dX7_of_374 rfl ?_
        refine wa_iload C 7 377 dX7_of_375 rfl rfl ?_
        obtain ⟨g18, hf⟩ := grd_ex hf
        obtain ⟨y19, ey19, hf⟩ := bnd_ex hf
        refine wa_iast (ws' := [wR dT a y19, [(b0, .inl (dT 0, n0, .inl z1))]]) C 378 0 2 dX7_of_377 rfl rfl rfl (vi_in g18) (by rw [ey19]; rfl) ?_
        obtain ⟨x20, ex20, hf⟩ := bnd_ex hf
        refine wa_iinc (v := x20) (lv' := [(0, .ref (a 0)), (1, .ref b0), (2, .int x10), (3, .int x20), (4, .int l4), (5, .int x12), (6, .int x14), (7, .int (0 : Int32))]) C 3 [1, 2, 3, 0, 4, 5, 6, 7] 381 dX7_of_378 rfl rfl (by rw [ex20]; rfl) (Nat.le_of_ble_eq_true rfl) rfl ?_
        refine wa_goto C 4 dX7_of_381 rfl ?_
        refine wa_lv (lv' := [(0, .ref (a 0)), (1, .ref b0), (2, .int x10), (3, .int x20)]) [0, 1, 2, 3] rfl ?_
        exact hk4 x10 x20 y19 hf
      · replace hf := ite_f hf c17
        refine wa_iload C 6 338 dX7_of_336 rfl rfl ?_
        refine wa_if_eq C 345 341 dX7_of_338 rfl rfl (fun c21 => ?_) (fun c21 => ?_)
        · replace hf := ite_t hf c21
          refine wa_iconst (v := 0) C 346 dX7_of_345 rfl rfl ?_
          refine wa_istore (lv' := [(0, .ref (a 0)), (1, .ref b0), (2, .int x10), (3, .int l3), (4, .int l4), (5, .int x12), (6, .int x14), (7, .int (0 : Int32))]) C [1, 2, 3, 4, 5, 6, 7, 0] 348 dX7_of_346 rfl (Nat.le_of_ble_eq_true rfl) rfl ?_
          refine wa_goto C 368 dX7_of_348 rfl ?_
          refine wa_aload_n C 0 369 dX7_of_368 rfl rfl ?_
          refine wa_get C 372 0 0 3 dX7_of_369 rfl iX7 q147 rfl (Nat.le_of_ble_eq_true rfl) rfl rfl rfl ?_
          refine wa_iload_n C 2 373 dX7_of_372 rfl rfl ?_
          refine wa_iconst (v := 1) C 374 dX7_of_373 rfl rfl ?_
          refine wa_isub C 375 dX7_of_374 rfl ?_
          refine wa_iload C 7 377 dX7_of_375 rfl rfl ?_
          obtain ⟨g22, hf⟩ := grd_ex hf
          obtain ⟨y23, ey23, hf⟩ := bnd_ex hf
          refine wa_iast (ws' := [wR dT a y23, [(b0, .inl (dT 0, n0, .inl z1))]]) C 378 0 2 dX7_of_377 rfl rfl rfl (vi_in g22) (by rw [ey23]; rfl) ?_
          obtain ⟨x24, ex24, hf⟩ := bnd_ex hf
          refine wa_iinc (v := x24) (lv' := [(0, .ref (a 0)), (1, .ref b0), (2, .int x10), (3, .int x24), (4, .int l4), (5, .int x12), (6, .int x14), (7, .int (0 : Int32))]) C 3 [1, 2, 3, 0, 4, 5, 6, 7] 381 dX7_of_378 rfl rfl (by rw [ex24]; rfl) (Nat.le_of_ble_eq_true rfl) rfl ?_
          refine wa_goto C 4 dX7_of_381 rfl ?_
          refine wa_lv (lv' := [(0, .ref (a 0)), (1, .ref b0), (2, .int x10), (3, .int x24)]) [0, 1, 2, 3] rfl ?_
          exact hk4 x10 x24 y23 hf
        · replace hf := ite_f hf c21
          refine wa_iconst (v := 1) C 342 dX7_of_341 rfl rfl ?_
          refine wa_goto C 346 dX7_of_342 rfl ?_
          refine wa_istore (lv' := [(0, .ref (a 0)), (1, .ref b0), (2, .int x10), (3, .int l3), (4, .int l4), (5, .int x12), (6, .int x14), (7, .int (1 : Int32))]) C [1, 2, 3, 4, 5, 6, 7, 0] 348 dX7_of_346 rfl (Nat.le_of_ble_eq_true rfl) rfl ?_
          refine wa_goto C 368 dX7_of_348 rfl ?_
          refine wa_aload_n C 0 369 dX7_of_368 rfl rfl ?_
          refine wa_get C 372 0 0 3 dX7_of_369 rfl iX7 q147 rfl (Nat.le_of_ble_eq_true rfl) rfl rfl rfl ?_
          refine wa_iload_n C 2 373 dX7_of_372 rfl rfl ?_
          refine wa_iconst (v := 1) C 374 dX7_of_373 rfl rfl ?_
          refine wa_isub C 375 dX7_of_374 rfl ?_
          refine wa_iload C 7 377 dX7_of_375 rfl rfl ?_
          obtain ⟨g25, hf⟩ := grd_ex hf
          obtain ⟨y26, ey26, hf⟩ := bnd_ex hf
          refine wa_iast (ws' := [wR dT a y26, [(b0, .inl (dT 0, n0, .inl z1))]]) C 378 0 2 dX7_of_377 rfl rfl rfl (vi_in g25) (by rw [ey26]; rfl) ?_
          obtain ⟨x27, ex27, hf⟩ := bnd_ex hf
          refine wa_iinc (v := x27) (lv' := [(0, .ref (a 0)), (1, .ref b0), (2, .int x10), (3, .int x27), (4, .int l4), (5, .int x12), (6, .int x14), (7, .int (1 : Int32))]) C 3 [1, 2, 3, 0, 4, 5, 6, 7] 381 dX7_of_378 rfl rfl (by rw [ex27]; rfl) (Nat.le_of_ble_eq_true rfl) rfl ?_
          refine wa_goto C 4 dX7_of_381 rfl ?_
          refine wa_lv (lv' := [(0, .ref (a 0)), (1, .ref b0), (2, .int x10), (3, .int x27)]) [0, 1, 2, 3] rfl ?_
          exact hk4 x10 x27 y26 hf
    · replace hf := ite_f hf c16
      by_cases c28 : x15 = 39
      · replace hf := ite_t hf c28
        refine wa_ts C 39 (213) 351 dX7_of_138 c28 (by decide) (by decide) rfl rfl ?_
        refine wa_lv (lv' := [(0, .ref (a 0)), (1, .ref b0), (2, .int x10), (3, .int l3), (5, .int x12), (6, .int x14)]) [0, 1, 2, 3, 5, 6] rfl ?_
        exact w_X7_of_J351 C hk4 x10 l3 x12 x14 z0 hf
      · replace hf := ite_f hf c28
        by_cases c40 : x15 = 40
        · replace hf := ite_t hf c40
          refine wa_ts C 40 (213) 351 dX7_of_138 c40 (by decide) (by decide) rfl rfl ?_
          refine wa_lv (lv' := [(0, .ref (a 0)), (1, .ref b0), (2, .int x10), (3, .int l3), (5, .int x12), (6, .int x14)]) [0, 1, 2, 3, 5, 6] rfl ?_
          exact w_X7_of_J351 C hk4 x10 l3 x12 x14 z0 hf
        · replace hf := ite_f hf c40
          by_cases c41 : x15 = 41
          · replace hf := ite_t hf c41
            refine wa_ts C 41 (213) 351 dX7_of_138 c41 (by decide) (by decide) rfl rfl ?_
            refine wa_lv (lv' := [(0, .ref (a 0)), (1, .ref b0), (2, .int x10), (3, .int l3), (5, .int x12), (6, .int x14)]) [0, 1, 2, 3, 5, 6] rfl ?_
            exact w_X7_of_J351 C hk4 x10 l3 x12 x14 z0 hf
          · replace hf := ite_f hf c41
            by_cases c42 : x15 = 42
            · replace hf := ite_t hf c42
              refine wa_ts C 42 (130) 268 dX7_of_138 c42 (by decide) (by decide) rfl rfl ?_
              refine wa_iload C 5 270 dX7_of_268 rfl rfl ?_
              refine wa_iload C 6 272 dX7_of_270 rfl rfl ?_
              refine wa_imul C 273 dX7_of_272 rfl ?_
              obtain ⟨x43, ex43, hf⟩ := bnd_ex hf
              refine wa_topi ex43 ?_
              refine wa_istore (lv' := [(0, .ref (a 0)), (1, .ref b0), (2, .int x10), (3, .int l3), (4, .int l4), (5, .int x12), (6, .int x14), (7, .int x43)]) C [1, 2, 3, 4, 5, 6, 7, 0] 275 dX7_of_273 rfl (Nat.le_of_ble_eq_true rfl) rfl ?_
              refine wa_goto C 368 dX7_of_275 rfl ?_
              refine wa_aload_n C 0 369 dX7_of_368 rfl rfl ?_
              refine wa_get C 372 0 0 3 dX7_of_369 rfl iX7 q147 rfl (Nat.le_of_ble_eq_true rfl) rfl rfl rfl ?_
              refine wa_iload_n C 2 373 dX7_of_372 rfl rfl ?_
              refine wa_iconst (v := 1) C 374 dX7_of_373 rfl rfl ?_
              refine wa_isub C 375 dX7_of_374 rfl ?_
              refine wa_iload C 7 377 dX7_of_375 rfl rfl ?_
              obtain ⟨g44, hf⟩ := grd_ex hf
              obtain ⟨y45, ey45, hf⟩ := bnd_ex hf
              refine wa_iast (ws' := [wR dT a y45, [(b0, .inl (dT 0, n0, .inl z1))]]) C 378 0 2 dX7_of_377 rfl rfl rfl (vi_in g44) (by rw [ey45]; rfl) ?_
              obtain ⟨x46, ex46, hf⟩ := bnd_ex hf
              refine wa_iinc (v := x46) (lv' := [(0, .ref (a 0)), (1, .ref b0), (2, .int x10), (3, .int x46), (4, .int l4), (5, .int x12), (6, .int x14), (7, .int x43)]) C 3 [1, 2, 3, 0, 4, 5, 6, 7] 381 dX7_of_378 rfl rfl (by rw [ex46]; rfl) (Nat.le_of_ble_eq_true rfl) rfl ?_
              refine wa_goto C 4 dX7_of_381 rfl ?_
              refine wa_lv (lv' := [(0, .ref (a 0)), (1, .ref b0), (2, .int x10), (3, .int x46)]) [0, 1, 2, 3] rfl ?_
              exact hk4 x10 x46 y45 hf
            · replace hf := ite_f hf c42
              by_cases c47 : x15 = 43
              · replace hf := ite_t hf c47
                refine wa_ts C 43 (110) 248 dX7_of_138 c47 (by decide) (by decide) rfl rfl ?_
                refine wa_iload C 5 250 dX7_of_248 rfl rfl ?_
                refine wa_iload C 6 252 dX7_of_250 rfl rfl ?_
                refine wa_iadd C 253 dX7_of_252 rfl ?_
                obtain ⟨x48, ex48, hf⟩ := bnd_ex hf
                refine wa_topi ex48 ?_
                refine wa_istore (lv' := [(0, .ref (a 0)), (1, .ref b0), (2, .int x10), (3, .int l3), (4, .int l4), (5, .int x12), (6, .int x14), (7, .int x48)]) C [1, 2, 3, 4, 5, 6, 7, 0] 255 dX7_of_253 rfl (Nat.le_of_ble_eq_true rfl) rfl ?_
                refine wa_goto C 368 dX7_of_255 rfl ?_
                refine wa_aload_n C 0 369 dX7_of_368 rfl rfl ?_
                refine wa_get C 372 0 0 3 dX7_of_369 rfl iX7 q147 rfl (Nat.le_of_ble_eq_true rfl) rfl rfl rfl ?_
                refine wa_iload_n C 2 373 dX7_of_372 rfl rfl ?_
                refine wa_iconst (v := 1) C 374 dX7_of_373 rfl rfl ?_
                refine wa_isub C 375 dX7_of_374 rfl ?_
                refine wa_iload C 7 377 dX7_of_375 rfl rfl ?_
                obtain ⟨g49, hf⟩ := grd_ex hf
                obtain ⟨y50, ey50, hf⟩ := bnd_ex hf
                refine wa_iast (ws' := [wR dT a y50, [(b0, .inl (dT 0, n0, .inl z1))]]) C 378 0 2 dX7_of_377 rfl rfl rfl (vi_in g49) (by rw [ey50]; rfl) ?_
                obtain ⟨x51, ex51, hf⟩ := bnd_ex hf
                refine wa_iinc (v := x51) (lv' := [(0, .ref (a 0)), (1, .ref b0), (2, .int x10), (3, .int x51), (4, .int l4), (5, .int x12), (6, .int x14), (7, .int x48)]) C 3 [1, 2, 3, 0, 4, 5, 6, 7] 381 dX7_of_378 rfl rfl (by rw [ex51]; rfl) (Nat.le_of_ble_eq_true rfl) rfl ?_
                refine wa_goto C 4 dX7_of_381 rfl ?_
                refine wa_lv (lv' := [(0, .ref (a 0)), (1, .ref b0), (2, .int x10), (3, .int x51)]) [0, 1, 2, 3] rfl ?_
                exact hk4 x10 x51 y50 hf
              · replace hf := ite_f hf c47
                by_cases c52 : x15 = 44
                · replace hf := ite_t hf c52
                  refine wa_ts C 44 (213) 351 dX7_of_138 c52 (by decide) (by decide) rfl rfl ?_
                  refine wa_lv (lv' := [(0, .ref (a 0)), (1, .ref b0), (2, .int x10), (3, .int l3), (5, .int x12), (6, .int x14)]) [0, 1, 2, 3, 5, 6] rfl ?_
                  exact w_X7_of_J351 C hk4 x10 l3 x12 x14 z0 hf
                · replace hf := ite_f hf c52
                  by_cases c53 : x15 = 45
                  · replace hf := ite_t hf c53
                    refine wa_ts C 45 (120) 258 dX7_of_138 c53 (by decide) (by decide) rfl rfl ?_
                    refine wa_iload C 5 260 dX7_of_258 rfl rfl ?_
                    refine wa_iload C 6 262 dX7_of_260 rfl rfl ?_
                    refine wa_isub C 263 dX7_of_262 rfl ?_
                    obtain ⟨x54, ex54, hf⟩ := bnd_ex hf
                    refine wa_topi ex54 ?_
                    refine wa_istore (lv' := [(0, .ref (a 0)), (1, .ref b0), (2, .int x10), (3, .int l3), (4, .int l4), (5, .int x12), (6, .int x14), (7, .int x54)]) C [1, 2, 3, 4, 5, 6, 7, 0] 265 dX7_of_263 rfl (Nat.le_of_ble_eq_true rfl) rfl ?_
                    refine wa_goto C 368 dX7_of_265 rfl ?_
                    refine wa_aload_n C 0 369 dX7_of_368 rfl rfl ?_
                    refine wa_get C 372 0 0 3 dX7_of_369 rfl iX7 q147 rfl (Nat.le_of_ble_eq_true rfl) rfl rfl rfl ?_
                    refine wa_iload_n C 2 373 dX7_of_372 rfl rfl ?_
                    refine wa_iconst (v := 1) C 374 dX7_of_373 rfl rfl ?_
                    refine wa_isub C 375 dX7_of_374 rfl ?_
                    refine wa_iload C 7 377 dX7_of_375 rfl rfl ?_
                    obtain ⟨g55, hf⟩ := grd_ex hf
                    obtain ⟨y56, ey56, hf⟩ := bnd_ex hf
                    refine wa_iast (ws' := [wR dT a y56, [(b0, .inl (dT 0, n0, .inl z1))]]) C 378 0 2 dX7_of_377 rfl rfl rfl (vi_in g55) (by rw [ey56]; rfl) ?_
                    obtain ⟨x57, ex57, hf⟩ := bnd_ex hf
                    refine wa_iinc (v := x57) (lv' := [(0, .ref (a 0)), (1, .ref b0), (2, .int x10), (3, .int x57), (4, .int l4), (5, .int x12), (6, .int x14), (7, .int x54)]) C 3 [1, 2, 3, 0, 4, 5, 6, 7] 381 dX7_of_378 rfl rfl (by rw [ex57]; rfl) (Nat.le_of_ble_eq_true rfl) rfl ?_
                    refine wa_goto C 4 dX7_of_381 rfl ?_
                    refine wa_lv (lv' := [(0, .ref (a 0)), (1, .ref b0), (2, .int x10), (3, .int x57)]) [0, 1, 2, 3] rfl ?_
                    exact hk4 x10 x57 y56 hf
                  · replace hf := ite_f hf c53
                    by_cases c58 : x15 = 46
                    · replace hf := ite_t hf c58
                      refine wa_ts C 46 (213) 351 dX7_of_138 c58 (by decide) (by decide) rfl rfl ?_
                      refine wa_lv (lv' := [(0, .ref (a 0)), (1, .ref b0), (2, .int x10), (3, .int l3), (5, .int x12), (6, .int x14)]) [0, 1, 2, 3, 5, 6] rfl ?_
                      exact w_X7_of_J351 C hk4 x10 l3 x12 x14 z0 hf
                    · replace hf := ite_f hf c58
                      by_cases c59 : x15 = 47
                      · replace hf := ite_t hf c59
                        refine wa_ts C 47 (140) 278 dX7_of_138 c59 (by decide) (by decide) rfl rfl ?_
                        refine wa_iload C 6 280 dX7_of_278 rfl rfl ?_
                        refine wa_if_ne C 287 283 dX7_of_280 rfl rfl (fun c60 => ?_) (fun c60 => ?_)
                        · replace hf := ite_f hf c60
                          refine wa_iload C 5 289 dX7_of_287 rfl rfl ?_
                          refine wa_iload C 6 291 dX7_of_289 rfl rfl ?_
                          obtain ⟨g61, hf⟩ := grd_ex hf
                          refine wa_idiv C 292 dX7_of_291 rfl (of_decide_eq_true g61) ?_
                          obtain ⟨x62, ex62, hf⟩ := bnd_ex hf
                          refine wa_topi ex62 ?_
                          refine wa_istore (lv' := [(0, .ref (a 0)), (1, .ref b0), (2, .int x10), (3, .int l3), (4, .int l4), (5, .int x12), (6, .int x14), (7, .int x62)]) C [1, 2, 3, 4, 5, 6, 7, 0] 294 dX7_of_292 rfl (Nat.le_of_ble_eq_true rfl) rfl ?_
                          refine wa_goto C 368 dX7_of_294 rfl ?_
                          refine wa_aload_n C 0 369 dX7_of_368 rfl rfl ?_
                          refine wa_get C 372 0 0 3 dX7_of_369 rfl iX7 q147 rfl (Nat.le_of_ble_eq_true rfl) rfl rfl rfl ?_
                          refine wa_iload_n C 2 373 dX7_of_372 rfl rfl ?_
                          refine wa_iconst (v := 1) C 374 dX7_of_373 rfl rfl ?_
                          refine wa_isub C 375 dX7_of_374 rfl ?_
                          refine wa_iload C 7 377 dX7_of_375 rfl rfl ?_
                          obtain ⟨g63, hf⟩ := grd_ex hf
                          obtain ⟨y64, ey64, hf⟩ := bnd_ex hf
                          refine wa_iast (ws' := [wR dT a y64, [(b0, .inl (dT 0, n0, .inl z1))]]) C 378 0 2 dX7_of_377 rfl rfl rfl (vi_in g63) (by rw [ey64]; rfl) ?_
                          obtain ⟨x65, ex65, hf⟩ := bnd_ex hf
                          refine wa_iinc (v := x65) (lv' := [(0, .ref (a 0)), (1, .ref b0), (2, .int x10), (3, .int x65), (4, .int l4), (5, .int x12), (6, .int x14), (7, .int x62)]) C 3 [1, 2, 3, 0, 4, 5, 6, 7] 381 dX7_of_378 rfl rfl (by rw [ex65]; rfl) (Nat.le_of_ble_eq_true rfl) rfl ?_
                          refine wa_goto C 4 dX7_of_381 rfl ?_
                          refine wa_lv (lv' := [(0, .ref (a 0)), (1, .ref b0), (2, .int x10), (3, .int x65)]) [0, 1, 2, 3] rfl ?_
                          exact hk4 x10 x65 y64 hf
                        · replace hf := ite_t hf c60
                          refine wa_iconst (v := 0) C 284 dX7_of_283 rfl rfl ?_
                          refine wa_goto C 292 dX7_of_284 rfl ?_
                          refine wa_istore (lv' := [(0, .ref (a 0)), (1, .ref b0), (2, .int x10), (3, .int l3), (4, .int l4), (5, .int x12), (6, .int x14), (7, .int (0 : Int32))]) C [1, 2, 3, 4, 5, 6, 7, 0] 294 dX7_of_292 rfl (Nat.le_of_ble_eq_true rfl) rfl ?_
                          refine wa_goto C 368 dX7_of_294 rfl ?_
                          refine wa_aload_n C 0 369 dX7_of_368 rfl rfl ?_
                          refine wa_get C 372 0 0 3 dX7_of_369 rfl iX7 q147 rfl (Nat.le_of_ble_eq_true rfl) rfl rfl rfl ?_
                          refine wa_iload_n C 2 373 dX7_of_372 rfl rfl ?_
                          refine wa_iconst (v := 1) C 374 dX7_of_373 rfl rfl ?_
                          refine wa_isub C 375 dX7_of_374 rfl ?_
                          refine wa_iload C 7 377 dX7_of_375 rfl rfl ?_
                          obtain ⟨g66, hf⟩ := grd_ex hf
                          obtain ⟨y67, ey67, hf⟩ := bnd_ex hf
                          refine wa_iast (ws' := [wR dT a y67, [(b0, .inl (dT 0, n0, .inl z1))]]) C 378 0 2 dX7_of_377 rfl rfl rfl (vi_in g66) (by rw [ey67]; rfl) ?_
                          obtain ⟨x68, ex68, hf⟩ := bnd_ex hf
                          refine wa_iinc (v := x68) (lv' := [(0, .ref (a 0)), (1, .ref b0), (2, .int x10), (3, .int x68), (4, .int l4), (5, .int x12), (6, .int x14), (7, .int (0 : Int32))]) C 3 [1, 2, 3, 0, 4, 5, 6, 7] 381 dX7_of_378 rfl rfl (by rw [ex68]; rfl) (Nat.le_of_ble_eq_true rfl) rfl ?_
                          refine wa_goto C 4 dX7_of_381 rfl ?_
                          refine wa_lv (lv' := [(0, .ref (a 0)), (1, .ref b0), (2, .int x10), (3, .int x68)]) [0, 1, 2, 3] rfl ?_
                          exact hk4 x10 x68 y67 hf
                      · replace hf := ite_f hf c59
                        by_cases c69 : x15 = 48
                        · replace hf := ite_t hf c69
                          refine wa_ts C 48 (213) 351 dX7_of_138 c69 (by decide) (by decide) rfl rfl ?_
                          refine wa_lv (lv' := [(0, .ref (a 0)), (1, .ref b0), (2, .int x10), (3, .int l3), (5, .int x12), (6, .int x14)]) [0, 1, 2, 3, 5, 6] rfl ?_
                          exact w_X7_of_J351 C hk4 x10 l3 x12 x14 z0 hf
                        · replace hf := ite_f hf c69
                          by_cases c70 : x15 = 49
                          · replace hf := ite_t hf c70
                            refine wa_ts C 49 (213) 351 dX7_of_138 c70 (by decide) (by decide) rfl rfl ?_
                            refine wa_lv (lv' := [(0, .ref (a 0)), (1, .ref b0), (2, .int x10), (3, .int l3), (5, .int x12), (6, .int x14)]) [0, 1, 2, 3, 5, 6] rfl ?_
                            exact w_X7_of_J351 C hk4 x10 l3 x12 x14 z0 hf
                          · replace hf := ite_f hf c70
                            by_cases c71 : x15 = 50
                            · replace hf := ite_t hf c71
                              refine wa_ts C 50 (213) 351 dX7_of_138 c71 (by decide) (by decide) rfl rfl ?_
                              refine wa_lv (lv' := [(0, .ref (a 0)), (1, .ref b0), (2, .int x10), (3, .int l3), (5, .int x12), (6, .int x14)]) [0, 1, 2, 3, 5, 6] rfl ?_
                              exact w_X7_of_J351 C hk4 x10 l3 x12 x14 z0 hf
                            · replace hf := ite_f hf c71
                              by_cases c72 : x15 = 51
                              · replace hf := ite_t hf c72
                                refine wa_ts C 51 (213) 351 dX7_of_138 c72 (by decide) (by decide) rfl rfl ?_
                                refine wa_lv (lv' := [(0, .ref (a 0)), (1, .ref b0), (2, .int x10), (3, .int l3), (5, .int x12), (6, .int x14)]) [0, 1, 2, 3, 5, 6] rfl ?_
                                exact w_X7_of_J351 C hk4 x10 l3 x12 x14 z0 hf
                              · replace hf := ite_f hf c72
                                by_cases c73 : x15 = 52
                                · replace hf := ite_t hf c73
                                  refine wa_ts C 52 (213) 351 dX7_of_138 c73 (by decide) (by decide) rfl rfl ?_
                                  refine wa_lv (lv' := [(0, .ref (a 0)), (1, .ref b0), (2, .int x10), (3, .int l3), (5, .int x12), (6, .int x14)]) [0, 1, 2, 3, 5, 6] rfl ?_
                                  exact w_X7_of_J351 C hk4 x10 l3 x12 x14 z0 hf
                                · replace hf := ite_f hf c73
                                  by_cases c74 : x15 = 53
                                  · replace hf := ite_t hf c74
                                    refine wa_ts C 53 (213) 351 dX7_of_138 c74 (by decide) (by decide) rfl rfl ?_
                                    refine wa_lv (lv' := [(0, .ref (a 0)), (1, .ref b0), (2, .int x10), (3, .int l3), (5, .int x12), (6, .int x14)]) [0, 1, 2, 3, 5, 6] rfl ?_
                                    exact w_X7_of_J351 C hk4 x10 l3 x12 x14 z0 hf
                                  · replace hf := ite_f hf c74
                                    by_cases c75 : x15 = 54
                                    · replace hf := ite_t hf c75
                                      refine wa_ts C 54 (213) 351 dX7_of_138 c75 (by decide) (by decide) rfl rfl ?_
                                      refine wa_lv (lv' := [(0, .ref (a 0)), (1, .ref b0), (2, .int x10), (3, .int l3), (5, .int x12), (6, .int x14)]) [0, 1, 2, 3, 5, 6] rfl ?_
                                      exact w_X7_of_J351 C hk4 x10 l3 x12 x14 z0 hf
                                    · replace hf := ite_f hf c75
                                      by_cases c76 : x15 = 55
                                      · replace hf := ite_t hf c76
                                        refine wa_ts C 55 (213) 351 dX7_of_138 c76 (by decide) (by decide) rfl rfl ?_
                                        refine wa_lv (lv' := [(0, .ref (a 0)), (1, .ref b0), (2, .int x10), (3, .int l3), (5, .int x12), (6, .int x14)]) [0, 1, 2, 3, 5, 6] rfl ?_
                                        exact w_X7_of_J351 C hk4 x10 l3 x12 x14 z0 hf
                                      · replace hf := ite_f hf c76
                                        by_cases c77 : x15 = 56
                                        · replace hf := ite_t hf c77
                                          refine wa_ts C 56 (213) 351 dX7_of_138 c77 (by decide) (by decide) rfl rfl ?_
                                          refine wa_lv (lv' := [(0, .ref (a 0)), (1, .ref b0), (2, .int x10), (3, .int l3), (5, .int x12), (6, .int x14)]) [0, 1, 2, 3, 5, 6] rfl ?_
                                          exact w_X7_of_J351 C hk4 x10 l3 x12 x14 z0 hf
                                        · replace hf := ite_f hf c77
                                          by_cases c78 : x15 = 57
                                          · replace hf := ite_t hf c78
                                            refine wa_ts C 57 (213) 351 dX7_of_138 c78 (by decide) (by decide) rfl rfl ?_
                                            refine wa_lv (lv' := [(0, .ref (a 0)), (1, .ref b0), (2, .int x10), (3, .int l3), (5, .int x12), (6, .int x14)]) [0, 1, 2, 3, 5, 6] rfl ?_
                                            exact w_X7_of_J351 C hk4 x10 l3 x12 x14 z0 hf
                                          · replace hf := ite_f hf c78
                                            by_cases c79 : x15 = 58
                                            · replace hf := ite_t hf c79
                                              refine wa_ts C 58 (213) 351 dX7_of_138 c79 (by decide) (by decide) rfl rfl ?_
                                              refine wa_lv (lv' := [(0, .ref (a 0)), (1, .ref b0), (2, .int x10), (3, .int l3), (5, .int x12), (6, .int x14)]) [0, 1, 2, 3, 5, 6] rfl ?_
                                              exact w_X7_of_J351 C hk4 x10 l3 x12 x14 z0 hf
                                            · replace hf := ite_f hf c79
                                              by_cases c80 : x15 = 59
                                              · replace hf := ite_t hf c80
                                                refine wa_ts C 59 (213) 351 dX7_of_138 c80 (by decide) (by decide) rfl rfl ?_
                                                refine wa_lv (lv' := [(0, .ref (a 0)), (1, .ref b0), (2, .int x10), (3, .int l3), (5, .int x12), (6, .int x14)]) [0, 1, 2, 3, 5, 6] rfl ?_
                                                exact w_X7_of_J351 C hk4 x10 l3 x12 x14 z0 hf
                                              · replace hf := ite_f hf c80
                                                by_cases c81 : x15 = 60
                                                · replace hf := ite_t hf c81
                                                  refine wa_ts C 60 (159) 297 dX7_of_138 c81 (by decide) (by decide) rfl rfl ?_
                                                  refine wa_iload C 5 299 dX7_of_297 rfl rfl ?_
                                                  refine wa_iload C 6 301 dX7_of_299 rfl rfl ?_
                                                  refine wa_icmp_ge C 308 304 dX7_of_301 rfl rfl (fun c82 => ?_) (fun c82 => ?_)
                                                  · replace hf := ite_t hf c82
                                                    refine wa_iconst (v := 0) C 309 dX7_of_308 rfl rfl ?_
                                                    refine wa_istore (lv' := [(0, .ref (a 0)), (1, .ref b0), (2, .int x10), (3, .int l3), (4, .int l4), (5, .int x12), (6, .int x14), (7, .int (0 : Int32))]) C [1, 2, 3, 4, 5, 6, 7, 0] 311 dX7_of_309 rfl (Nat.le_of_ble_eq_true rfl) rfl ?_
                                                    refine wa_goto C 368 dX7_of_311 rfl ?_
                                                    refine wa_aload_n C 0 369 dX7_of_368 rfl rfl ?_
                                                    refine wa_get C 372 0 0 3 dX7_of_369 rfl iX7 q147 rfl (Nat.le_of_ble_eq_true rfl) rfl rfl rfl ?_
                                                    refine wa_iload_n C 2 373 dX7_of_372 rfl rfl ?_
                                                    refine wa_iconst (v := 1) C 374 dX7_of_373 rfl rfl ?_
                                                    refine wa_isub C 375 dX7_of_374 rfl ?_
                                                    refine wa_iload C 7 377 dX7_of_375 rfl rfl ?_
                                                    obtain ⟨g83, hf⟩ := grd_ex hf
                                                    obtain ⟨y84, ey84, hf⟩ := bnd_ex hf
                                                    refine wa_iast (ws' := [wR dT a y84, [(b0, .inl (dT 0, n0, .inl z1))]]) C 378 0 2 dX7_of_377 rfl rfl rfl (vi_in g83) (by rw [ey84]; rfl) ?_
                                                    obtain ⟨x85, ex85, hf⟩ := bnd_ex hf
                                                    refine wa_iinc (v := x85) (lv' := [(0, .ref (a 0)), (1, .ref b0), (2, .int x10), (3, .int x85), (4, .int l4), (5, .int x12), (6, .int x14), (7, .int (0 : Int32))]) C 3 [1, 2, 3, 0, 4, 5, 6, 7] 381 dX7_of_378 rfl rfl (by rw [ex85]; rfl) (Nat.le_of_ble_eq_true rfl) rfl ?_
                                                    refine wa_goto C 4 dX7_of_381 rfl ?_
                                                    refine wa_lv (lv' := [(0, .ref (a 0)), (1, .ref b0), (2, .int x10), (3, .int x85)]) [0, 1, 2, 3] rfl ?_
                                                    exact hk4 x10 x85 y84 hf
                                                  · replace hf := ite_f hf c82
                                                    refine wa_iconst (v := 1) C 305 dX7_of_304 rfl rfl ?_
                                                    refine wa_goto C 309 dX7_of_305 rfl ?_
                                                    refine wa_istore (lv' := [(0, .ref (a 0)), (1, .ref b0), (2, .int x10), (3, .int l3), (4, .int l4), (5, .int x12), (6, .int x14), (7, .int (1 : Int32))]) C [1, 2, 3, 4, 5, 6, 7, 0] 311 dX7_of_309 rfl (Nat.le_of_ble_eq_true rfl) rfl ?_
                                                    refine wa_goto C 368 dX7_of_311 rfl ?_
                                                    refine wa_aload_n C 0 369 dX7_of_368 rfl rfl ?_
                                                    refine wa_get C 372 0 0 3 dX7_of_369 rfl iX7 q147 rfl (Nat.le_of_ble_eq_true rfl) rfl rfl rfl ?_
                                                    refine wa_iload_n C 2 373 dX7_of_372 rfl rfl ?_
                                                    refine wa_iconst (v := 1) C 374 dX7_of_373 rfl rfl ?_
                                                    refine wa_isub C 375 dX7_of_374 rfl ?_
                                                    refine wa_iload C 7 377 dX7_of_375 rfl rfl ?_
                                                    obtain ⟨g86, hf⟩ := grd_ex hf
                                                    obtain ⟨y87, ey87, hf⟩ := bnd_ex hf
                                                    refine wa_iast (ws' := [wR dT a y87, [(b0, .inl (dT 0, n0, .inl z1))]]) C 378 0 2 dX7_of_377 rfl rfl rfl (vi_in g86) (by rw [ey87]; rfl) ?_
                                                    obtain ⟨x88, ex88, hf⟩ := bnd_ex hf
                                                    refine wa_iinc (v := x88) (lv' := [(0, .ref (a 0)), (1, .ref b0), (2, .int x10), (3, .int x88), (4, .int l4), (5, .int x12), (6, .int x14), (7, .int (1 : Int32))]) C 3 [1, 2, 3, 0, 4, 5, 6, 7] 381 dX7_of_378 rfl rfl (by rw [ex88]; rfl) (Nat.le_of_ble_eq_true rfl) rfl ?_
                                                    refine wa_goto C 4 dX7_of_381 rfl ?_
                                                    refine wa_lv (lv' := [(0, .ref (a 0)), (1, .ref b0), (2, .int x10), (3, .int x88)]) [0, 1, 2, 3] rfl ?_
                                                    exact hk4 x10 x88 y87 hf
                                                · replace hf := ite_f hf c81
                                                  by_cases c89 : x15 = 61
                                                  · replace hf := ite_t hf c89
                                                    refine wa_ts C 61 (176) 314 dX7_of_138 c89 (by decide) (by decide) rfl rfl ?_
                                                    refine wa_iload C 5 316 dX7_of_314 rfl rfl ?_
                                                    refine wa_iload C 6 318 dX7_of_316 rfl rfl ?_
                                                    refine wa_icmp_ne C 325 321 dX7_of_318 rfl rfl (fun c90 => ?_) (fun c90 => ?_)
                                                    · replace hf := ite_f hf c90
                                                      refine wa_iconst (v := 0) C 326 dX7_of_325 rfl rfl ?_
                                                      refine wa_istore (lv' := [(0, .ref (a 0)), (1, .ref b0), (2, .int x10), (3, .int l3), (4, .int l4), (5, .int x12), (6, .int x14), (7, .int (0 : Int32))]) C [1, 2, 3, 4, 5, 6, 7, 0] 328 dX7_of_326 rfl (Nat.le_of_ble_eq_true rfl) rfl ?_
                                                      refine wa_goto C 368 dX7_of_328 rfl ?_
                                                      refine wa_aload_n C 0 369 dX7_of_368 rfl rfl ?_
                                                      refine wa_get C 372 0 0 3 dX7_of_369 rfl iX7 q147 rfl (Nat.le_of_ble_eq_true rfl) rfl rfl rfl ?_
                                                      refine wa_iload_n C 2 373 dX7_of_372 rfl rfl ?_
                                                      refine wa_iconst (v := 1) C 374 dX7_of_373 rfl rfl ?_
                                                      refine wa_isub C 375 dX7_of_374 rfl ?_
                                                      refine wa_iload C 7 377 dX7_of_375 rfl rfl ?_
                                                      obtain ⟨g91, hf⟩ := grd_ex hf
                                                      obtain ⟨y92, ey92, hf⟩ := bnd_ex hf
                                                      refine wa_iast (ws' := [wR dT a y92, [(b0, .inl (dT 0, n0, .inl z1))]]) C 378 0 2 dX7_of_377 rfl rfl rfl (vi_in g91) (by rw [ey92]; rfl) ?_
                                                      obtain ⟨x93, ex93, hf⟩ := bnd_ex hf
                                                      refine wa_iinc (v := x93) (lv' := [(0, .ref (a 0)), (1, .ref b0), (2, .int x10), (3, .int x93), (4, .int l4), (5, .int x12), (6, .int x14), (7, .int (0 : Int32))]) C 3 [1, 2, 3, 0, 4, 5, 6, 7] 381 dX7_of_378 rfl rfl (by rw [ex93]; rfl) (Nat.le_of_ble_eq_true rfl) rfl ?_
                                                      refine wa_goto C 4 dX7_of_381 rfl ?_
                                                      refine wa_lv (lv' := [(0, .ref (a 0)), (1, .ref b0), (2, .int x10), (3, .int x93)]) [0, 1, 2, 3] rfl ?_
                                                      exact hk4 x10 x93 y92 hf
                                                    · replace hf := ite_t hf c90
                                                      refine wa_iconst (v := 1) C 322 dX7_of_321 rfl rfl ?_
                                                      refine wa_goto C 326 dX7_of_322 rfl ?_
                                                      refine wa_istore (lv' := [(0, .ref (a 0)), (1, .ref b0), (2, .int x10), (3, .int l3), (4, .int l4), (5, .int x12), (6, .int x14), (7, .int (1 : Int32))]) C [1, 2, 3, 4, 5, 6, 7, 0] 328 dX7_of_326 rfl (Nat.le_of_ble_eq_true rfl) rfl ?_
                                                      refine wa_goto C 368 dX7_of_328 rfl ?_
                                                      refine wa_aload_n C 0 369 dX7_of_368 rfl rfl ?_
                                                      refine wa_get C 372 0 0 3 dX7_of_369 rfl iX7 q147 rfl (Nat.le_of_ble_eq_true rfl) rfl rfl rfl ?_
                                                      refine wa_iload_n C 2 373 dX7_of_372 rfl rfl ?_
                                                      refine wa_iconst (v := 1) C 374 dX7_of_373 rfl rfl ?_
                                                      refine wa_isub C 375 dX7_of_374 rfl ?_
                                                      refine wa_iload C 7 377 dX7_of_375 rfl rfl ?_
                                                      obtain ⟨g94, hf⟩ := grd_ex hf
                                                      obtain ⟨y95, ey95, hf⟩ := bnd_ex hf
                                                      refine wa_iast (ws' := [wR dT a y95, [(b0, .inl (dT 0, n0, .inl z1))]]) C 378 0 2 dX7_of_377 rfl rfl rfl (vi_in g94) (by rw [ey95]; rfl) ?_
                                                      obtain ⟨x96, ex96, hf⟩ := bnd_ex hf
                                                      refine wa_iinc (v := x96) (lv' := [(0, .ref (a 0)), (1, .ref b0), (2, .int x10), (3, .int x96), (4, .int l4), (5, .int x12), (6, .int x14), (7, .int (1 : Int32))]) C 3 [1, 2, 3, 0, 4, 5, 6, 7] 381 dX7_of_378 rfl rfl (by rw [ex96]; rfl) (Nat.le_of_ble_eq_true rfl) rfl ?_
                                                      refine wa_goto C 4 dX7_of_381 rfl ?_
                                                      refine wa_lv (lv' := [(0, .ref (a 0)), (1, .ref b0), (2, .int x10), (3, .int x96)]) [0, 1, 2, 3] rfl ?_
                                                      exact hk4 x10 x96 y95 hf
                                                  · replace hf := ite_f hf c89
                                                    refine wa_tsd C 351 dX7_of_138 (ts_out (38) 24 (nts_s (nts_s (nts_s (nts_s (nts_s (nts_s (nts_s (nts_s (nts_s (nts_s (nts_s (nts_s (nts_s (nts_s (nts_s (nts_s (nts_s (nts_s (nts_s (nts_s (nts_s (nts_s (nts_s (nts_s nts_0 rfl c16) rfl c28) rfl c40) rfl c41) rfl c42) rfl c47) rfl c52) rfl c53) rfl c58) rfl c59) rfl c69) rfl c70) rfl c71) rfl c72) rfl c73) rfl c74) rfl c75) rfl c76) rfl c77) rfl c78) rfl c79) rfl c80) rfl c81) rfl c89)) rfl ?_
                                                    refine wa_lv (lv' := [(0, .ref (a 0)), (1, .ref b0), (2, .int x10), (3, .int l3), (5, .int x12), (6, .int x14)]) [0, 1, 2, 3, 5, 6] rfl ?_
                                                    exact w_X7_of_J351 C hk4 x10 l3 x12 x14 z0 hf
set_option maxRecDepth 20000 in
theorem w_X7_of_J67 {p : Program} {l : Launch} {e : Env} {s : State} {m : MethodId} {args : Array Value} {below : List Frame} {meth : Method} {c : Code} {D : va_G} {A : Nat → Prop} {dT : Nat → ClassId} {a : Nat → Nat} {b0 : Nat} {n0 : Nat} {res : Int32 × Ob} {z1 : (Nat → Int32)} (C : Cx p s m args meth c cX7_of 8 RX7 (some .int) D A dT) {k4 : Int32 → Int32 → Ob → Option (Int32 × Ob)} (hk4 : ∀ (l2 : Int32) (l3 : Int32) (z0 : Ob), k4 l2 l3 z0 = some res → WA p l e ({ frames := 0, cells := 0, slots := 0, locals := 0 } : Room) s m args below meth c (MQ below (QI D dT A ([wR dT a res.2, [(b0, .inl (dT 0, n0, .inl z1))]]) res.1) args s 0 0 A) D A 0 0 8 4 ([wR dT a z0, [(b0, .inl (dT 0, n0, .inl z1))]]) [(0, .ref (a 0)), (1, .ref b0), (2, .int l2), (3, .int l3)] []) : ∀ (l2 : Int32) (l3 : Int32) (l4 : Int32) (z0 : Ob), f_X7_of_J67 k4 n0 z1 l2 l3 l4 z0 = some res → WA p l e ({ frames := 0, cells := 0, slots := 0, locals := 0 } : Room) s m args below meth c (MQ below (QI D dT A ([wR dT a res.2, [(b0, .inl (dT 0, n0, .inl z1))]]) res.1) args s 0 0 A) D A 0 0 8 67 ([wR dT a z0, [(b0, .inl (dT 0, n0, .inl z1))]]) [(0, .ref (a 0)), (1, .ref b0), (2, .int l2), (3, .int l3), (4, .int l4)] [] := by
  intro l2 l3 l4 z0 hf
  unfold f_X7_of_J67 at hf
  refine wa_iload C 4 69 dX7_of_67 rfl rfl ?_
  refine wa_sipush (v := 20033) C 72 dX7_of_69 rfl rfl ?_
  refine wa_icmp_ne C 106 75 dX7_of_72 rfl rfl (fun c7 => ?_) (fun c7 => ?_)
  · replace hf := ite_f hf c7
    exact w_X7_of_J106 C hk4 l2 l3 l4 z0 hf
  · replace hf := ite_t hf c7
    refine wa_iload_n C 2 76 dX7_of_75 rfl rfl ?_
    refine wa_if_le C 106 79 dX7_of_76 rfl rfl (fun c97 => ?_) (fun c97 => ?_)
    · replace hf := ite_t hf c97
      exact w_X7_of_J106 C hk4 l2 l3 l4 z0 hf
    · replace hf := ite_f hf c97
      refine wa_aload_n C 0 80 dX7_of_79 rfl rfl ?_
      refine wa_get C 83 0 0 3 dX7_of_80 rfl iX7 q147 rfl (Nat.le_of_ble_eq_true rfl) rfl rfl rfl ?_
      refine wa_iload_n C 2 84 dX7_of_83 rfl rfl ?_
      refine wa_iconst (v := 1) C 85 dX7_of_84 rfl rfl ?_
      refine wa_isub C 86 dX7_of_85 rfl ?_
      refine wa_aload_n C 0 87 dX7_of_86 rfl rfl ?_
      refine wa_get C 90 0 0 3 dX7_of_87 rfl iX7 q147 rfl (Nat.le_of_ble_eq_true rfl) rfl rfl rfl ?_
      refine wa_iload_n C 2 91 dX7_of_90 rfl rfl ?_
      refine wa_iconst (v := 1) C 92 dX7_of_91 rfl rfl ?_
      refine wa_isub C 93 dX7_of_92 rfl ?_
      obtain ⟨g98, hf⟩ := grd_ex hf
      refine wa_iald C 94 0 2 dX7_of_93 rfl rfl rfl (vi_in g98) ?_
      refine wa_if_ne C 101 97 dX7_of_94 rfl rfl (fun c99 => ?_) (fun c99 => ?_)
      · replace hf := ite_f hf c99
        refine wa_iconst (v := 0) C 102 dX7_of_101 rfl rfl ?_
        obtain ⟨g100, hf⟩ := grd_ex hf
        obtain ⟨y101, ey101, hf⟩ := bnd_ex hf
        refine wa_iast (ws' := [wR dT a y101, [(b0, .inl (dT 0, n0, .inl z1))]]) C 103 0 2 dX7_of_102 rfl rfl rfl (vi_in g100) (by rw [ey101]; rfl) ?_
        refine wa_goto C 378 dX7_of_103 rfl ?_
        obtain ⟨x102, ex102, hf⟩ := bnd_ex hf
        refine wa_iinc (v := x102) (lv' := [(0, .ref (a 0)), (1, .ref b0), (2, .int l2), (3, .int x102), (4, .int l4)]) C 3 [1, 2, 3, 0, 4] 381 dX7_of_378 rfl rfl (by rw [ex102]; rfl) (Nat.le_of_ble_eq_true rfl) rfl ?_
        refine wa_goto C 4 dX7_of_381 rfl ?_
        refine wa_lv (lv' := [(0, .ref (a 0)), (1, .ref b0), (2, .int l2), (3, .int x102)]) [0, 1, 2, 3] rfl ?_
        exact hk4 l2 x102 y101 hf
      · replace hf := ite_t hf c99
        refine wa_iconst (v := 1) C 98 dX7_of_97 rfl rfl ?_
        refine wa_goto C 102 dX7_of_98 rfl ?_
        obtain ⟨g103, hf⟩ := grd_ex hf
        obtain ⟨y104, ey104, hf⟩ := bnd_ex hf
        refine wa_iast (ws' := [wR dT a y104, [(b0, .inl (dT 0, n0, .inl z1))]]) C 103 0 2 dX7_of_102 rfl rfl rfl (vi_in g103) (by rw [ey104]; rfl) ?_
        refine wa_goto C 378 dX7_of_103 rfl ?_
        obtain ⟨x105, ex105, hf⟩ := bnd_ex hf
        refine wa_iinc (v := x105) (lv' := [(0, .ref (a 0)), (1, .ref b0), (2, .int l2), (3, .int x105), (4, .int l4)]) C 3 [1, 2, 3, 0, 4] 381 dX7_of_378 rfl rfl (by rw [ex105]; rfl) (Nat.le_of_ble_eq_true rfl) rfl ?_
        refine wa_goto C 4 dX7_of_381 rfl ?_
        refine wa_lv (lv' := [(0, .ref (a 0)), (1, .ref b0), (2, .int l2), (3, .int x105)]) [0, 1, 2, 3] rfl ?_
        exact hk4 l2 x105 y104 hf
set_option maxRecDepth 20000 in
theorem w_X7_of_L4 {p : Program} {l : Launch} {e : Env} {s : State} {m : MethodId} {args : Array Value} {below : List Frame} {meth : Method} {c : Code} {D : va_G} {A : Nat → Prop} {dT : Nat → ClassId} {a : Nat → Nat} {b0 : Nat} {n0 : Nat} {res : Int32 × Ob} {z1 : (Nat → Int32)} (C : Cx p s m args meth c cX7_of 8 RX7 (some .int) D A dT) : ∀ (n : Nat) (l2 : Int32) (l3 : Int32) (z0 : Ob), f_X7_of_L4 n0 z1 n l2 l3 z0 = some res → WA p l e ({ frames := 0, cells := 0, slots := 0, locals := 0 } : Room) s m args below meth c (MQ below (QI D dT A ([wR dT a res.2, [(b0, .inl (dT 0, n0, .inl z1))]]) res.1) args s 0 0 A) D A 0 0 8 4 ([wR dT a z0, [(b0, .inl (dT 0, n0, .inl z1))]]) [(0, .ref (a 0)), (1, .ref b0), (2, .int l2), (3, .int l3)] [] := by
  intro n
  induction n with
  | zero => intro l2 l3 z0 hf; cases hf
  | succ n ih =>
    intro l2 l3 z0 hf
    unfold f_X7_of_L4 at hf
    refine wa_iload_n C 3 5 dX7_of_4 rfl rfl ?_
    refine wa_aload_n C 0 6 dX7_of_5 rfl rfl ?_
    refine wa_get C 9 0 0 1 dX7_of_6 rfl iX7 q145 rfl (Nat.le_of_ble_eq_true rfl) rfl rfl rfl ?_
    refine wa_icmp_ge C 384 12 dX7_of_9 rfl rfl (fun c1 => ?_) (fun c1 => ?_)
    · replace hf := ite_t hf c1
      refine wa_iload_n C 2 385 dX7_of_384 rfl rfl ?_
      refine wa_if_le C 397 388 dX7_of_385 rfl rfl (fun c2 => ?_) (fun c2 => ?_)
      · replace hf := ite_t hf c2
        refine wa_iconst (v := 0) C 398 dX7_of_397 rfl rfl ?_
        cases hf
        exact wa_iret C dX7_of_398 rfl rfl
      · replace hf := ite_f hf c2
        refine wa_aload_n C 0 389 dX7_of_388 rfl rfl ?_
        refine wa_get C 392 0 0 3 dX7_of_389 rfl iX7 q147 rfl (Nat.le_of_ble_eq_true rfl) rfl rfl rfl ?_
        refine wa_iconst (v := 0) C 393 dX7_of_392 rfl rfl ?_
        obtain ⟨g3, hf⟩ := grd_ex hf
        refine wa_iald C 394 0 2 dX7_of_393 rfl rfl rfl (vi_in g3) ?_
        refine wa_goto C 398 dX7_of_394 rfl ?_
        cases hf
        exact wa_iret C dX7_of_398 rfl rfl
    · replace hf := ite_f hf c1
      refine wa_aload_n C 0 13 dX7_of_12 rfl rfl ?_
      refine wa_get C 16 0 0 2 dX7_of_13 rfl iX7 q146 rfl (Nat.le_of_ble_eq_true rfl) rfl rfl rfl ?_
      refine wa_iload_n C 3 17 dX7_of_16 rfl rfl ?_
      obtain ⟨g4, hf⟩ := grd_ex hf
      refine wa_iald C 18 0 1 dX7_of_17 rfl rfl rfl (vi_in g4) ?_
      obtain ⟨x5, ex5, hf⟩ := bnd_ex hf
      refine wa_topi ex5 ?_
      refine wa_istore (lv' := [(0, .ref (a 0)), (1, .ref b0), (2, .int l2), (3, .int l3), (4, .int x5)]) C [1, 2, 3, 4, 0] 20 dX7_of_18 rfl (Nat.le_of_ble_eq_true rfl) rfl ?_
      refine wa_iload C 4 22 dX7_of_20 rfl rfl ?_
      refine wa_sipush (v := 20000) C 25 dX7_of_22 rfl rfl ?_
      refine wa_icmp_ge C 67 28 dX7_of_25 rfl rfl (fun c6 => ?_) (fun c6 => ?_)
      · replace hf := ite_t hf c6
        exact w_X7_of_J67 C ih l2 l3 x5 z0 hf
      · replace hf := ite_f hf c6
        refine wa_iload_n C 2 29 dX7_of_28 rfl rfl ?_
        refine wa_bipush (v := 40) C 31 dX7_of_29 rfl rfl ?_
        refine wa_icmp_ge C 67 34 dX7_of_31 rfl rfl (fun c106 => ?_) (fun c106 => ?_)
        · replace hf := ite_t hf c106
          exact w_X7_of_J67 C ih l2 l3 x5 z0 hf
        · replace hf := ite_f hf c106
          refine wa_aload_n C 0 35 dX7_of_34 rfl rfl ?_
          refine wa_get C 38 0 0 3 dX7_of_35 rfl iX7 q147 rfl (Nat.le_of_ble_eq_true rfl) rfl rfl rfl ?_
          refine wa_iload_n C 2 39 dX7_of_38 rfl rfl ?_
          refine wa_iload C 4 41 dX7_of_39 rfl rfl ?_
          refine wa_sipush (v := 10000) C 44 dX7_of_41 rfl rfl ?_
          refine wa_icmp_ge C 52 47 dX7_of_44 rfl rfl (fun c107 => ?_) (fun c107 => ?_)
          · replace hf := ite_t hf c107
            refine wa_aload_n C 1 53 dX7_of_52 rfl rfl ?_
            refine wa_iload C 4 55 dX7_of_53 rfl rfl ?_
            refine wa_sipush (v := 10000) C 58 dX7_of_55 rfl rfl ?_
            refine wa_isub C 59 dX7_of_58 rfl ?_
            obtain ⟨g108, hf⟩ := grd_ex hf
            refine wa_iald C 60 1 0 dX7_of_59 rfl rfl rfl (vi_in g108) ?_
            obtain ⟨g109, hf⟩ := grd_ex hf
            obtain ⟨y110, ey110, hf⟩ := bnd_ex hf
            refine wa_iast (ws' := [wR dT a y110, [(b0, .inl (dT 0, n0, .inl z1))]]) C 61 0 2 dX7_of_60 rfl rfl rfl (vi_in g109) (by rw [ey110]; rfl) ?_
            obtain ⟨x111, ex111, hf⟩ := bnd_ex hf
            refine wa_iinc (v := x111) (lv' := [(0, .ref (a 0)), (1, .ref b0), (2, .int x111), (3, .int l3), (4, .int x5)]) C 2 [1, 2, 0, 3, 4] 64 dX7_of_61 rfl rfl (by rw [ex111]; rfl) (Nat.le_of_ble_eq_true rfl) rfl ?_
            refine wa_goto C 378 dX7_of_64 rfl ?_
            obtain ⟨x112, ex112, hf⟩ := bnd_ex hf
            refine wa_iinc (v := x112) (lv' := [(0, .ref (a 0)), (1, .ref b0), (2, .int x111), (3, .int x112), (4, .int x5)]) C 3 [1, 2, 3, 0, 4] 381 dX7_of_378 rfl rfl (by rw [ex112]; rfl) (Nat.le_of_ble_eq_true rfl) rfl ?_
            refine wa_goto C 4 dX7_of_381 rfl ?_
            refine wa_lv (lv' := [(0, .ref (a 0)), (1, .ref b0), (2, .int x111), (3, .int x112)]) [0, 1, 2, 3] rfl ?_
            exact ih x111 x112 y110 hf
          · replace hf := ite_f hf c107
            refine wa_iload C 4 49 dX7_of_47 rfl rfl ?_
            refine wa_goto C 60 dX7_of_49 rfl ?_
            obtain ⟨g113, hf⟩ := grd_ex hf
            obtain ⟨y114, ey114, hf⟩ := bnd_ex hf
            refine wa_iast (ws' := [wR dT a y114, [(b0, .inl (dT 0, n0, .inl z1))]]) C 61 0 2 dX7_of_60 rfl rfl rfl (vi_in g113) (by rw [ey114]; rfl) ?_
            obtain ⟨x115, ex115, hf⟩ := bnd_ex hf
            refine wa_iinc (v := x115) (lv' := [(0, .ref (a 0)), (1, .ref b0), (2, .int x115), (3, .int l3), (4, .int x5)]) C 2 [1, 2, 0, 3, 4] 64 dX7_of_61 rfl rfl (by rw [ex115]; rfl) (Nat.le_of_ble_eq_true rfl) rfl ?_
            refine wa_goto C 378 dX7_of_64 rfl ?_
            obtain ⟨x116, ex116, hf⟩ := bnd_ex hf
            refine wa_iinc (v := x116) (lv' := [(0, .ref (a 0)), (1, .ref b0), (2, .int x115), (3, .int x116), (4, .int x5)]) C 3 [1, 2, 3, 0, 4] 381 dX7_of_378 rfl rfl (by rw [ex116]; rfl) (Nat.le_of_ble_eq_true rfl) rfl ?_
            refine wa_goto C 4 dX7_of_381 rfl ?_
            refine wa_lv (lv' := [(0, .ref (a 0)), (1, .ref b0), (2, .int x115), (3, .int x116)]) [0, 1, 2, 3] rfl ?_
            exact ih x115 x116 y114 hf
set_option maxRecDepth 20000 in
theorem c_X7_of {l : Launch} {D : va_G} {dT : Nat → ClassId} {a : Nat → Nat} {b0 : Nat} {n0 : Nat} {v : Ob} {u0 : (Nat → Int32)} {res : Int32 × Ob} (hf : f_X7_of v u0 n0 = some res) : CTi l yX7_of cX7_of 8 (some .int) ({ frames := 0, cells := 0, slots := 0, locals := 0 } : Room) D dT [.ref (a 0), .ref b0] ([wR dT a v, [(b0, .inl (dT 0, n0, .inl u0))]]) ([wR dT a res.2, [(b0, .inl (dT 0, n0, .inl u0))]]) res.1 := by
  refine CTi.of (by decide) (Nat.le_of_ble_eq_true rfl) rfl ?_
  intro p e s m args below meth c A C
  unfold f_X7_of at hf
  refine wa_iconst (v := 0) C 1 dX7_of_0 rfl rfl ?_
  refine wa_istore_n (lv' := [(0, .ref (a 0)), (1, .ref b0), (2, .int (0 : Int32))]) C [1, 2, 0] 2 dX7_of_1 rfl (Nat.le_of_ble_eq_true rfl) rfl ?_
  refine wa_iconst (v := 0) C 3 dX7_of_2 rfl rfl ?_
  refine wa_istore_n (lv' := [(0, .ref (a 0)), (1, .ref b0), (2, .int (0 : Int32)), (3, .int (0 : Int32))]) C [1, 2, 3, 0] 4 dX7_of_3 rfl (Nat.le_of_ble_eq_true rfl) rfl ?_
  exact w_X7_of_L4 C FUEL (0 : Int32) (0 : Int32) v hf
def f_X3_copyFrom (v : Ob) (v0 : Ob) : Option (Ob) := bnd (upd v.1 0 (v0.1 0), v.2) (fun y1 => grd (cpg (0 : Int32) (0 : Int32) (12 : Int32) 12 12) (bnd (y1.1, sA y1.2 1 (va_cpy (v0.2 1) (y1.2 1) ((0 : Int32)).toNatClampNeg ((0 : Int32)).toNatClampNeg ((12 : Int32)).toNatClampNeg)) (fun y3 => grd (cpg (0 : Int32) (0 : Int32) (12 : Int32) 12 12) (bnd (y3.1, sA y3.2 2 (va_cpy (v0.2 2) (y3.2 2) ((0 : Int32)).toNatClampNeg ((0 : Int32)).toNatClampNeg ((12 : Int32)).toNatClampNeg)) (fun y5 => some (y5))))))
set_option maxRecDepth 20000 in
theorem c_X3_copyFrom {l : Launch} {D : va_G} {dT : Nat → ClassId} {a : Nat → Nat} {a0 : Nat → Nat} {v : Ob} {v0 : Ob} {res : Ob} (hf : f_X3_copyFrom v v0 = some res) : CTv l yX3_copyFrom cX3_copyFrom 2 none ({ frames := 3, cells := 0, slots := 0, locals := 60 } : Room) D dT [.ref (a 0), .ref (a0 0)] ([wF dT a v, wF dT a0 v0]) ([wF dT a res, wF dT a0 v0]) := by
  refine CTv.of (by decide) (Nat.le_of_ble_eq_true rfl) rfl ?_
  intro p e s m args below meth c A C
  unfold f_X3_copyFrom at hf
  refine wa_aload_n C 0 1 dX3_copyFrom_0 rfl rfl ?_
  refine wa_aload_n C 1 2 dX3_copyFrom_1 rfl rfl ?_
  refine wa_get C 5 1 0 0 dX3_copyFrom_2 rfl iX3 q124 rfl (Nat.le_of_ble_eq_true rfl) rfl rfl rfl ?_
  obtain ⟨y1, ey1, hf⟩ := bnd_ex hf
  refine wa_put (ws' := [wF dT a y1, wF dT a0 v0]) C 8 0 0 0 tyX3 dX3_copyFrom_5 rfl iX3 tyX3_ok nmX3 q124 rfl (Nat.le_of_ble_eq_true rfl) rfl rfl rfl rfl rfl (Nat.le_of_ble_eq_true rfl) (by rw [ey1]; rfl) ?_
  refine wa_aload_n C 1 9 dX3_copyFrom_8 rfl rfl ?_
  refine wa_get C 12 1 0 1 dX3_copyFrom_9 rfl iX3 q127 rfl (Nat.le_of_ble_eq_true rfl) rfl rfl rfl ?_
  refine wa_iconst (v := 0) C 13 dX3_copyFrom_12 rfl rfl ?_
  refine wa_aload_n C 0 14 dX3_copyFrom_13 rfl rfl ?_
  refine wa_get C 17 0 0 1 dX3_copyFrom_14 rfl iX3 q127 rfl (Nat.le_of_ble_eq_true rfl) rfl rfl rfl ?_
  refine wa_iconst (v := 0) C 18 dX3_copyFrom_17 rfl rfl ?_
  refine wa_bipush (v := 12) C 20 dX3_copyFrom_18 rfl rfl ?_
  obtain ⟨g2, hf⟩ := grd_ex hf
  obtain ⟨y3, ey3, hf⟩ := bnd_ex hf
  refine wa_copyi (ws' := [wF dT a y3, wF dT a0 v0]) C 23 1 1 0 1 dX3_copyFrom_20 rfl q926 q448 q447 q24 rfl rfl rfl rfl g2 (Nat.le_of_ble_eq_true rfl) (Nat.le_of_ble_eq_true rfl) (by rw [ey3]; rfl) ?_
  refine wa_aload_n C 1 24 dX3_copyFrom_23 rfl rfl ?_
  refine wa_get C 27 1 0 2 dX3_copyFrom_24 rfl iX3 q128 rfl (Nat.le_of_ble_eq_true rfl) rfl rfl rfl ?_
  refine wa_iconst (v := 0) C 28 dX3_copyFrom_27 rfl rfl ?_
  refine wa_aload_n C 0 29 dX3_copyFrom_28 rfl rfl ?_
  refine wa_get C 32 0 0 2 dX3_copyFrom_29 rfl iX3 q128 rfl (Nat.le_of_ble_eq_true rfl) rfl rfl rfl ?_
  refine wa_iconst (v := 0) C 33 dX3_copyFrom_32 rfl rfl ?_
  refine wa_bipush (v := 12) C 35 dX3_copyFrom_33 rfl rfl ?_
  obtain ⟨g4, hf⟩ := grd_ex hf
  obtain ⟨y5, ey5, hf⟩ := bnd_ex hf
  refine wa_copyi (ws' := [wF dT a y5, wF dT a0 v0]) C 38 1 2 0 2 dX3_copyFrom_35 rfl q926 q448 q447 q24 rfl rfl rfl rfl g4 (Nat.le_of_ble_eq_true rfl) (Nat.le_of_ble_eq_true rfl) (by rw [ey5]; rfl) ?_
  cases hf
  exact wa_vret C dX3_copyFrom_38 rfl
def f_X3_add (v : Ob) (p0 : Int32) (p1 : Int32) : Option (Ob) := (if (12 : Int32) ≤ (v.1 0) then some (v) else grd (vi (v.1 0) 12) (bnd (v.1, uA v.2 1 ((v.1 0)).toNatClampNeg p0) (fun y3 => grd (vi (y3.1 0) 12) (bnd (y3.1, uA y3.2 2 ((y3.1 0)).toNatClampNeg p1) (fun y5 => bnd (upd y5.1 0 ((y5.1 0) + (1 : Int32)), y5.2) (fun y6 => some (y6)))))))
set_option maxRecDepth 20000 in
theorem c_X3_add {l : Launch} {D : va_G} {dT : Nat → ClassId} {a : Nat → Nat} {v : Ob} {p0 : Int32} {p1 : Int32} {res : Ob} (hf : f_X3_add v p0 p1 = some res) : CTv l yX3_add cX3_add 3 none ({ frames := 0, cells := 0, slots := 0, locals := 0 } : Room) D dT [.ref (a 0), .int p0, .int p1] ([wF dT a v]) ([wF dT a res]) := by
  refine CTv.of (by decide) (Nat.le_of_ble_eq_true rfl) rfl ?_
  intro p e s m args below meth c A C
  unfold f_X3_add at hf
  refine wa_aload_n C 0 1 dX3_add_0 rfl rfl ?_
  refine wa_get C 4 0 0 0 dX3_add_1 rfl iX3 q124 rfl (Nat.le_of_ble_eq_true rfl) rfl rfl rfl ?_
  refine wa_bipush (v := 12) C 6 dX3_add_4 rfl rfl ?_
  refine wa_icmp_ge C 39 9 dX3_add_6 rfl rfl (fun c1 => ?_) (fun c1 => ?_)
  · replace hf := ite_t hf c1
    cases hf
    exact wa_vret C dX3_add_39 rfl
  · replace hf := ite_f hf c1
    refine wa_aload_n C 0 10 dX3_add_9 rfl rfl ?_
    refine wa_get C 13 0 0 1 dX3_add_10 rfl iX3 q127 rfl (Nat.le_of_ble_eq_true rfl) rfl rfl rfl ?_
    refine wa_aload_n C 0 14 dX3_add_13 rfl rfl ?_
    refine wa_get C 17 0 0 0 dX3_add_14 rfl iX3 q124 rfl (Nat.le_of_ble_eq_true rfl) rfl rfl rfl ?_
    refine wa_iload_n C 1 18 dX3_add_17 rfl rfl ?_
    obtain ⟨g2, hf⟩ := grd_ex hf
    obtain ⟨y3, ey3, hf⟩ := bnd_ex hf
    refine wa_iast (ws' := [wF dT a y3]) C 19 0 1 dX3_add_18 rfl rfl rfl (vi_in g2) (by rw [ey3]; rfl) ?_
    refine wa_aload_n C 0 20 dX3_add_19 rfl rfl ?_
    refine wa_get C 23 0 0 2 dX3_add_20 rfl iX3 q128 rfl (Nat.le_of_ble_eq_true rfl) rfl rfl rfl ?_
    refine wa_aload_n C 0 24 dX3_add_23 rfl rfl ?_
    refine wa_get C 27 0 0 0 dX3_add_24 rfl iX3 q124 rfl (Nat.le_of_ble_eq_true rfl) rfl rfl rfl ?_
    refine wa_iload_n C 2 28 dX3_add_27 rfl rfl ?_
    obtain ⟨g4, hf⟩ := grd_ex hf
    obtain ⟨y5, ey5, hf⟩ := bnd_ex hf
    refine wa_iast (ws' := [wF dT a y5]) C 29 0 2 dX3_add_28 rfl rfl rfl (vi_in g4) (by rw [ey5]; rfl) ?_
    refine wa_aload_n C 0 30 dX3_add_29 rfl rfl ?_
    refine wa_dup C 31 dX3_add_30 rfl rfl ?_
    refine wa_get C 34 0 0 0 dX3_add_31 rfl iX3 q124 rfl (Nat.le_of_ble_eq_true rfl) rfl rfl rfl ?_
    refine wa_iconst (v := 1) C 35 dX3_add_34 rfl rfl ?_
    refine wa_iadd C 36 dX3_add_35 rfl ?_
    obtain ⟨y6, ey6, hf⟩ := bnd_ex hf
    refine wa_put (ws' := [wF dT a y6]) C 39 0 0 0 tyX3 dX3_add_36 rfl iX3 tyX3_ok nmX3 q124 rfl (Nat.le_of_ble_eq_true rfl) rfl rfl rfl rfl rfl (Nat.le_of_ble_eq_true rfl) (by rw [ey6]; rfl) ?_
    cases hf
    exact wa_vret C dX3_add_39 rfl
def f_X3_of_L4 (l1 : Int32) (z0 : Ob) : Nat → Int32 → Int32 → Option (Int32)
  | 0, _, _ => none
  | n + 1, l2, l3 => (if (z0.1 0) ≤ l3 then some (l2) else grd (vi l3 12) ((if (z0.2 1 (l3).toNatClampNeg) = l1 then grd (vi l3 12) (bnd (l2 ||| ((1 : Int32) <<< ((z0.2 2 (l3).toNatClampNeg) &&& 31))) (fun x11 => bnd (l3 + 1) (fun x12 => f_X3_of_L4 l1 z0 n x11 x12))) else grd (vi l3 12) ((if (z0.2 2 (l3).toNatClampNeg) = l1 then grd (vi l3 12) (bnd (l2 ||| ((1 : Int32) <<< ((z0.2 1 (l3).toNatClampNeg) &&& 31))) (fun x8 => bnd (l3 + 1) (fun x9 => f_X3_of_L4 l1 z0 n x8 x9))) else bnd (l3 + 1) (fun x6 => f_X3_of_L4 l1 z0 n l2 x6))))))
def f_X3_of (v : Ob) (p0 : Int32) : Option (Int32) := f_X3_of_L4 p0 v FUEL (0 : Int32) (0 : Int32)
set_option maxRecDepth 20000 in
theorem w_X3_of_L4 {p : Program} {l : Launch} {e : Env} {s : State} {m : MethodId} {args : Array Value} {below : List Frame} {meth : Method} {c : Code} {D : va_G} {A : Nat → Prop} {dT : Nat → ClassId} {a : Nat → Nat} {res : Int32} {l1 : Int32} {z0 : Ob} (C : Cx p s m args meth c cX3_of 4 RX3 (some .int) D A dT) : ∀ (n : Nat) (l2 : Int32) (l3 : Int32), f_X3_of_L4 l1 z0 n l2 l3 = some res → WA p l e ({ frames := 0, cells := 0, slots := 0, locals := 0 } : Room) s m args below meth c (MQ below (QI D dT A ([wF dT a z0]) res) args s 0 0 A) D A 0 0 4 4 ([wF dT a z0]) [(0, .ref (a 0)), (1, .int l1), (2, .int l2), (3, .int l3)] [] := by
  intro n
  induction n with
  | zero => intro l2 l3 hf; cases hf
  | succ n ih =>
    intro l2 l3 hf
    unfold f_X3_of_L4 at hf
    refine wa_iload_n C 3 5 dX3_of_4 rfl rfl ?_
    refine wa_aload_n C 0 6 dX3_of_5 rfl rfl ?_
    refine wa_get C 9 0 0 0 dX3_of_6 rfl iX3 q124 rfl (Nat.le_of_ble_eq_true rfl) rfl rfl rfl ?_
    refine wa_icmp_ge C 63 12 dX3_of_9 rfl rfl (fun c1 => ?_) (fun c1 => ?_)
    · replace hf := ite_t hf c1
      refine wa_iload_n C 2 64 dX3_of_63 rfl rfl ?_
      cases hf
      exact wa_iret C dX3_of_64 rfl rfl
    · replace hf := ite_f hf c1
      refine wa_aload_n C 0 13 dX3_of_12 rfl rfl ?_
      refine wa_get C 16 0 0 1 dX3_of_13 rfl iX3 q127 rfl (Nat.le_of_ble_eq_true rfl) rfl rfl rfl ?_
      refine wa_iload_n C 3 17 dX3_of_16 rfl rfl ?_
      obtain ⟨g2, hf⟩ := grd_ex hf
      refine wa_iald C 18 0 1 dX3_of_17 rfl rfl rfl (vi_in g2) ?_
      refine wa_iload_n C 1 19 dX3_of_18 rfl rfl ?_
      refine wa_icmp_ne C 36 22 dX3_of_19 rfl rfl (fun c3 => ?_) (fun c3 => ?_)
      · replace hf := ite_f hf c3
        refine wa_aload_n C 0 37 dX3_of_36 rfl rfl ?_
        refine wa_get C 40 0 0 2 dX3_of_37 rfl iX3 q128 rfl (Nat.le_of_ble_eq_true rfl) rfl rfl rfl ?_
        refine wa_iload_n C 3 41 dX3_of_40 rfl rfl ?_
        obtain ⟨g4, hf⟩ := grd_ex hf
        refine wa_iald C 42 0 2 dX3_of_41 rfl rfl rfl (vi_in g4) ?_
        refine wa_iload_n C 1 43 dX3_of_42 rfl rfl ?_
        refine wa_icmp_ne C 57 46 dX3_of_43 rfl rfl (fun c5 => ?_) (fun c5 => ?_)
        · replace hf := ite_f hf c5
          obtain ⟨x6, ex6, hf⟩ := bnd_ex hf
          refine wa_iinc (v := x6) (lv' := [(0, .ref (a 0)), (1, .int l1), (2, .int l2), (3, .int x6)]) C 3 [1, 2, 3, 0] 60 dX3_of_57 rfl rfl (by rw [ex6]; rfl) (Nat.le_of_ble_eq_true rfl) rfl ?_
          refine wa_goto C 4 dX3_of_60 rfl ?_
          exact ih l2 x6 hf
        · replace hf := ite_t hf c5
          refine wa_iload_n C 2 47 dX3_of_46 rfl rfl ?_
          refine wa_iconst (v := 1) C 48 dX3_of_47 rfl rfl ?_
          refine wa_aload_n C 0 49 dX3_of_48 rfl rfl ?_
          refine wa_get C 52 0 0 1 dX3_of_49 rfl iX3 q127 rfl (Nat.le_of_ble_eq_true rfl) rfl rfl rfl ?_
          refine wa_iload_n C 3 53 dX3_of_52 rfl rfl ?_
          obtain ⟨g7, hf⟩ := grd_ex hf
          refine wa_iald C 54 0 1 dX3_of_53 rfl rfl rfl (vi_in g7) ?_
          refine wa_ishl C 55 dX3_of_54 rfl ?_
          refine wa_ior C 56 dX3_of_55 rfl ?_
          obtain ⟨x8, ex8, hf⟩ := bnd_ex hf
          refine wa_topi ex8 ?_
          refine wa_istore_n (lv' := [(0, .ref (a 0)), (1, .int l1), (2, .int x8), (3, .int l3)]) C [1, 2, 0, 3] 57 dX3_of_56 rfl (Nat.le_of_ble_eq_true rfl) rfl ?_
          obtain ⟨x9, ex9, hf⟩ := bnd_ex hf
          refine wa_iinc (v := x9) (lv' := [(0, .ref (a 0)), (1, .int l1), (2, .int x8), (3, .int x9)]) C 3 [1, 2, 3, 0] 60 dX3_of_57 rfl rfl (by rw [ex9]; rfl) (Nat.le_of_ble_eq_true rfl) rfl ?_
          refine wa_goto C 4 dX3_of_60 rfl ?_
          exact ih x8 x9 hf
      · replace hf := ite_t hf c3
        refine wa_iload_n C 2 23 dX3_of_22 rfl rfl ?_
        refine wa_iconst (v := 1) C 24 dX3_of_23 rfl rfl ?_
        refine wa_aload_n C 0 25 dX3_of_24 rfl rfl ?_
        refine wa_get C 28 0 0 2 dX3_of_25 rfl iX3 q128 rfl (Nat.le_of_ble_eq_true rfl) rfl rfl rfl ?_
        refine wa_iload_n C 3 29 dX3_of_28 rfl rfl ?_
        obtain ⟨g10, hf⟩ := grd_ex hf
        refine wa_iald C 30 0 2 dX3_of_29 rfl rfl rfl (vi_in g10) ?_
        refine wa_ishl C 31 dX3_of_30 rfl ?_
        refine wa_ior C 32 dX3_of_31 rfl ?_
        obtain ⟨x11, ex11, hf⟩ := bnd_ex hf
        refine wa_topi ex11 ?_
        refine wa_istore_n (lv' := [(0, .ref (a 0)), (1, .int l1), (2, .int x11), (3, .int l3)]) C [1, 2, 0, 3] 33 dX3_of_32 rfl (Nat.le_of_ble_eq_true rfl) rfl ?_
        refine wa_goto C 57 dX3_of_33 rfl ?_
        obtain ⟨x12, ex12, hf⟩ := bnd_ex hf
        refine wa_iinc (v := x12) (lv' := [(0, .ref (a 0)), (1, .int l1), (2, .int x11), (3, .int x12)]) C 3 [1, 2, 3, 0] 60 dX3_of_57 rfl rfl (by rw [ex12]; rfl) (Nat.le_of_ble_eq_true rfl) rfl ?_
        refine wa_goto C 4 dX3_of_60 rfl ?_
        exact ih x11 x12 hf
set_option maxRecDepth 20000 in
theorem c_X3_of {l : Launch} {D : va_G} {dT : Nat → ClassId} {a : Nat → Nat} {v : Ob} {p0 : Int32} {res : Int32} (hf : f_X3_of v p0 = some res) : CTi l yX3_of cX3_of 4 (some .int) ({ frames := 0, cells := 0, slots := 0, locals := 0 } : Room) D dT [.ref (a 0), .int p0] ([wF dT a v]) ([wF dT a v]) res := by
  refine CTi.of (by decide) (Nat.le_of_ble_eq_true rfl) rfl ?_
  intro p e s m args below meth c A C
  unfold f_X3_of at hf
  refine wa_iconst (v := 0) C 1 dX3_of_0 rfl rfl ?_
  refine wa_istore_n (lv' := [(0, .ref (a 0)), (1, .int p0), (2, .int (0 : Int32))]) C [1, 2, 0] 2 dX3_of_1 rfl (Nat.le_of_ble_eq_true rfl) rfl ?_
  refine wa_iconst (v := 0) C 3 dX3_of_2 rfl rfl ?_
  refine wa_istore_n (lv' := [(0, .ref (a 0)), (1, .int p0), (2, .int (0 : Int32)), (3, .int (0 : Int32))]) C [1, 2, 3, 0] 4 dX3_of_3 rfl (Nat.le_of_ble_eq_true rfl) rfl ?_
  exact w_X3_of_L4 C FUEL (0 : Int32) (0 : Int32) hf
theorem kv_X3_28 : KV RX3 28 yX10_inOne cX10_inOne 3 (some .boolean) 2 := KV.mk q971 q972 q973 q3 q974 ⟨by decide, by decide, by decide +kernel⟩
def f_X3_inOneHouse_L4 (z0 : Ob) (z1 : Ob) : Nat → Int32 → Int32 → Option (Int32)
  | 0, _, _ => none
  | n + 1, l2, l3 => (if (z0.1 0) ≤ l3 then some (l2) else grd (vi l3 12) (grd (vi l3 12) ((f_X10_inOne z1 (z0.2 1 (l3).toNatClampNeg) (z0.2 2 (l3).toNatClampNeg)).bind (fun q4 => (if q4 = 0 then bnd (l3 + 1) (fun x6 => f_X3_inOneHouse_L4 z0 z1 n l2 x6) else bnd (l2 + 1) (fun x7 => bnd (l3 + 1) (fun x8 => f_X3_inOneHouse_L4 z0 z1 n x7 x8)))))))
def f_X3_inOneHouse (v : Ob) (v0 : Ob) : Option (Int32) := f_X3_inOneHouse_L4 v v0 FUEL (0 : Int32) (0 : Int32)
set_option maxRecDepth 20000 in
theorem w_X3_inOneHouse_L4 {p : Program} {l : Launch} {e : Env} {s : State} {m : MethodId} {args : Array Value} {below : List Frame} {meth : Method} {c : Code} {D : va_G} {A : Nat → Prop} {dT : Nat → ClassId} {a : Nat → Nat} {a0 : Nat → Nat} {res : Int32} {z0 : Ob} {z1 : Ob} (C : Cx p s m args meth c cX3_inOneHouse 4 RX3 (some .int) D A dT) : ∀ (n : Nat) (l2 : Int32) (l3 : Int32), f_X3_inOneHouse_L4 z0 z1 n l2 l3 = some res → WA p l e ({ frames := 1, cells := 0, slots := 0, locals := 22 } : Room) s m args below meth c (MQ below (QI D dT A ([wF dT a z0, wV dT a0 z1]) res) args s 0 0 A) D A 0 0 4 4 ([wF dT a z0, wV dT a0 z1]) [(0, .ref (a 0)), (1, .ref (a0 0)), (2, .int l2), (3, .int l3)] [] := by
  intro n
  induction n with
  | zero => intro l2 l3 hf; cases hf
  | succ n ih =>
    intro l2 l3 hf
    unfold f_X3_inOneHouse_L4 at hf
    refine wa_iload_n C 3 5 dX3_inOneHouse_4 rfl rfl ?_
    refine wa_aload_n C 0 6 dX3_inOneHouse_5 rfl rfl ?_
    refine wa_get C 9 0 0 0 dX3_inOneHouse_6 rfl iX3 q124 rfl (Nat.le_of_ble_eq_true rfl) rfl rfl rfl ?_
    refine wa_icmp_ge C 40 12 dX3_inOneHouse_9 rfl rfl (fun c1 => ?_) (fun c1 => ?_)
    · replace hf := ite_t hf c1
      refine wa_iload_n C 2 41 dX3_inOneHouse_40 rfl rfl ?_
      cases hf
      exact wa_iret C dX3_inOneHouse_41 rfl rfl
    · replace hf := ite_f hf c1
      refine wa_aload_n C 1 13 dX3_inOneHouse_12 rfl rfl ?_
      refine wa_aload_n C 0 14 dX3_inOneHouse_13 rfl rfl ?_
      refine wa_get C 17 0 0 1 dX3_inOneHouse_14 rfl iX3 q127 rfl (Nat.le_of_ble_eq_true rfl) rfl rfl rfl ?_
      refine wa_iload_n C 3 18 dX3_inOneHouse_17 rfl rfl ?_
      obtain ⟨g2, hf⟩ := grd_ex hf
      refine wa_iald C 19 0 1 dX3_inOneHouse_18 rfl rfl rfl (vi_in g2) ?_
      refine wa_aload_n C 0 20 dX3_inOneHouse_19 rfl rfl ?_
      refine wa_get C 23 0 0 2 dX3_inOneHouse_20 rfl iX3 q128 rfl (Nat.le_of_ble_eq_true rfl) rfl rfl rfl ?_
      refine wa_iload_n C 3 24 dX3_inOneHouse_23 rfl rfl ?_
      obtain ⟨g3, hf⟩ := grd_ex hf
      refine wa_iald C 25 0 2 dX3_inOneHouse_24 rfl rfl rfl (vi_in g3) ?_
      obtain ⟨q4, hq4, hf⟩ := bind_ex hf
      refine wa_callVi (b1 := 1) (q1 := 0) (ci := 10) (ws' := [wF dT a z0, wV dT a0 z1]) (As := [.int (z0.2 1 (l3).toNatClampNeg), .int (z0.2 2 (l3).toNatClampNeg)]) C 28 dX3_inOneHouse_25 rfl kv_X3_28 (c_X10_inOne hq4) ⟨rfl, rfl⟩ ⟨Nat.le_of_ble_eq_true rfl, Nat.le_of_ble_eq_true rfl⟩ rfl rfl rfl [1] [0] [0, 1] rfl rfl rfl rfl (by decide) rfl rfl rfl rfl ⟨Nat.zero_le _, Nat.zero_le _⟩ (Nat.le_of_ble_eq_true rfl) ?_
      refine wa_if_eq C 34 31 dX3_inOneHouse_28 rfl rfl (fun c5 => ?_) (fun c5 => ?_)
      · replace hf := ite_t hf c5
        obtain ⟨x6, ex6, hf⟩ := bnd_ex hf
        refine wa_iinc (v := x6) (lv' := [(0, .ref (a 0)), (1, .ref (a0 0)), (2, .int l2), (3, .int x6)]) C 3 [1, 2, 3, 0] 37 dX3_inOneHouse_34 rfl rfl (by rw [ex6]; rfl) (Nat.le_of_ble_eq_true rfl) rfl ?_
        refine wa_goto C 4 dX3_inOneHouse_37 rfl ?_
        exact ih l2 x6 hf
      · replace hf := ite_f hf c5
        obtain ⟨x7, ex7, hf⟩ := bnd_ex hf
        refine wa_iinc (v := x7) (lv' := [(0, .ref (a 0)), (1, .ref (a0 0)), (2, .int x7), (3, .int l3)]) C 2 [1, 2, 0, 3] 34 dX3_inOneHouse_31 rfl rfl (by rw [ex7]; rfl) (Nat.le_of_ble_eq_true rfl) rfl ?_
        obtain ⟨x8, ex8, hf⟩ := bnd_ex hf
        refine wa_iinc (v := x8) (lv' := [(0, .ref (a 0)), (1, .ref (a0 0)), (2, .int x7), (3, .int x8)]) C 3 [1, 2, 3, 0] 37 dX3_inOneHouse_34 rfl rfl (by rw [ex8]; rfl) (Nat.le_of_ble_eq_true rfl) rfl ?_
        refine wa_goto C 4 dX3_inOneHouse_37 rfl ?_
        exact ih x7 x8 hf
set_option maxRecDepth 20000 in
theorem c_X3_inOneHouse {l : Launch} {D : va_G} {dT : Nat → ClassId} {a : Nat → Nat} {a0 : Nat → Nat} {v : Ob} {v0 : Ob} {res : Int32} (hf : f_X3_inOneHouse v v0 = some res) : CTi l yX3_inOneHouse cX3_inOneHouse 4 (some .int) ({ frames := 1, cells := 0, slots := 0, locals := 22 } : Room) D dT [.ref (a 0), .ref (a0 0)] ([wF dT a v, wV dT a0 v0]) ([wF dT a v, wV dT a0 v0]) res := by
  refine CTi.of (by decide) (Nat.le_of_ble_eq_true rfl) rfl ?_
  intro p e s m args below meth c A C
  unfold f_X3_inOneHouse at hf
  refine wa_iconst (v := 0) C 1 dX3_inOneHouse_0 rfl rfl ?_
  refine wa_istore_n (lv' := [(0, .ref (a 0)), (1, .ref (a0 0)), (2, .int (0 : Int32))]) C [1, 2, 0] 2 dX3_inOneHouse_1 rfl (Nat.le_of_ble_eq_true rfl) rfl ?_
  refine wa_iconst (v := 0) C 3 dX3_inOneHouse_2 rfl rfl ?_
  refine wa_istore_n (lv' := [(0, .ref (a 0)), (1, .ref (a0 0)), (2, .int (0 : Int32)), (3, .int (0 : Int32))]) C [1, 2, 3, 0] 4 dX3_inOneHouse_3 rfl (Nat.le_of_ble_eq_true rfl) rfl ?_
  exact w_X3_inOneHouse_L4 C FUEL (0 : Int32) (0 : Int32) hf
def f_X3_eachHasOneOf_L2 (l1 : Int32) (z0 : Ob) : Nat → Int32 → Option (Int32)
  | 0, _ => none
  | n + 1, l2 => (if (z0.1 0) ≤ l2 then some ((1 : Int32)) else grd (vi l2 12) ((if ((l1 >>> ((z0.2 1 (l2).toNatClampNeg) &&& 31)) &&& (1 : Int32)) = 0 then grd (vi l2 12) ((if ((l1 >>> ((z0.2 2 (l2).toNatClampNeg) &&& 31)) &&& (1 : Int32)) = 0 then some ((0 : Int32)) else bnd (l2 + 1) (fun x7 => f_X3_eachHasOneOf_L2 l1 z0 n x7))) else bnd (l2 + 1) (fun x4 => f_X3_eachHasOneOf_L2 l1 z0 n x4))))
def f_X3_eachHasOneOf (v : Ob) (p0 : Int32) : Option (Int32) := f_X3_eachHasOneOf_L2 p0 v FUEL (0 : Int32)
set_option maxRecDepth 20000 in
theorem w_X3_eachHasOneOf_L2 {p : Program} {l : Launch} {e : Env} {s : State} {m : MethodId} {args : Array Value} {below : List Frame} {meth : Method} {c : Code} {D : va_G} {A : Nat → Prop} {dT : Nat → ClassId} {a : Nat → Nat} {res : Int32} {l1 : Int32} {z0 : Ob} (C : Cx p s m args meth c cX3_eachHasOneOf 3 RX3 (some .boolean) D A dT) : ∀ (n : Nat) (l2 : Int32), f_X3_eachHasOneOf_L2 l1 z0 n l2 = some res → WA p l e ({ frames := 0, cells := 0, slots := 0, locals := 0 } : Room) s m args below meth c (MQ below (QI D dT A ([wF dT a z0]) res) args s 0 0 A) D A 0 0 3 2 ([wF dT a z0]) [(0, .ref (a 0)), (1, .int l1), (2, .int l2)] [] := by
  intro n
  induction n with
  | zero => intro l2 hf; cases hf
  | succ n ih =>
    intro l2 hf
    unfold f_X3_eachHasOneOf_L2 at hf
    refine wa_iload_n C 2 3 dX3_eachHasOneOf_2 rfl rfl ?_
    refine wa_aload_n C 0 4 dX3_eachHasOneOf_3 rfl rfl ?_
    refine wa_get C 7 0 0 0 dX3_eachHasOneOf_4 rfl iX3 q124 rfl (Nat.le_of_ble_eq_true rfl) rfl rfl rfl ?_
    refine wa_icmp_ge C 44 10 dX3_eachHasOneOf_7 rfl rfl (fun c1 => ?_) (fun c1 => ?_)
    · replace hf := ite_t hf c1
      refine wa_iconst (v := 1) C 45 dX3_eachHasOneOf_44 rfl rfl ?_
      cases hf
      exact wa_zret C dX3_eachHasOneOf_45 rfl rfl rfl
    · replace hf := ite_f hf c1
      refine wa_iload_n C 1 11 dX3_eachHasOneOf_10 rfl rfl ?_
      refine wa_aload_n C 0 12 dX3_eachHasOneOf_11 rfl rfl ?_
      refine wa_get C 15 0 0 1 dX3_eachHasOneOf_12 rfl iX3 q127 rfl (Nat.le_of_ble_eq_true rfl) rfl rfl rfl ?_
      refine wa_iload_n C 2 16 dX3_eachHasOneOf_15 rfl rfl ?_
      obtain ⟨g2, hf⟩ := grd_ex hf
      refine wa_iald C 17 0 1 dX3_eachHasOneOf_16 rfl rfl rfl (vi_in g2) ?_
      refine wa_ishr C 18 dX3_eachHasOneOf_17 rfl ?_
      refine wa_iconst (v := 1) C 19 dX3_eachHasOneOf_18 rfl rfl ?_
      refine wa_iand C 20 dX3_eachHasOneOf_19 rfl ?_
      refine wa_if_ne C 38 23 dX3_eachHasOneOf_20 rfl rfl (fun c3 => ?_) (fun c3 => ?_)
      · replace hf := ite_f hf c3
        obtain ⟨x4, ex4, hf⟩ := bnd_ex hf
        refine wa_iinc (v := x4) (lv' := [(0, .ref (a 0)), (1, .int l1), (2, .int x4)]) C 2 [1, 2, 0] 41 dX3_eachHasOneOf_38 rfl rfl (by rw [ex4]; rfl) (Nat.le_of_ble_eq_true rfl) rfl ?_
        refine wa_goto C 2 dX3_eachHasOneOf_41 rfl ?_
        exact ih x4 hf
      · replace hf := ite_t hf c3
        refine wa_iload_n C 1 24 dX3_eachHasOneOf_23 rfl rfl ?_
        refine wa_aload_n C 0 25 dX3_eachHasOneOf_24 rfl rfl ?_
        refine wa_get C 28 0 0 2 dX3_eachHasOneOf_25 rfl iX3 q128 rfl (Nat.le_of_ble_eq_true rfl) rfl rfl rfl ?_
        refine wa_iload_n C 2 29 dX3_eachHasOneOf_28 rfl rfl ?_
        obtain ⟨g5, hf⟩ := grd_ex hf
        refine wa_iald C 30 0 2 dX3_eachHasOneOf_29 rfl rfl rfl (vi_in g5) ?_
        refine wa_ishr C 31 dX3_eachHasOneOf_30 rfl ?_
        refine wa_iconst (v := 1) C 32 dX3_eachHasOneOf_31 rfl rfl ?_
        refine wa_iand C 33 dX3_eachHasOneOf_32 rfl ?_
        refine wa_if_ne C 38 36 dX3_eachHasOneOf_33 rfl rfl (fun c6 => ?_) (fun c6 => ?_)
        · replace hf := ite_f hf c6
          obtain ⟨x7, ex7, hf⟩ := bnd_ex hf
          refine wa_iinc (v := x7) (lv' := [(0, .ref (a 0)), (1, .int l1), (2, .int x7)]) C 2 [1, 2, 0] 41 dX3_eachHasOneOf_38 rfl rfl (by rw [ex7]; rfl) (Nat.le_of_ble_eq_true rfl) rfl ?_
          refine wa_goto C 2 dX3_eachHasOneOf_41 rfl ?_
          exact ih x7 hf
        · replace hf := ite_t hf c6
          refine wa_iconst (v := 0) C 37 dX3_eachHasOneOf_36 rfl rfl ?_
          cases hf
          exact wa_zret C dX3_eachHasOneOf_37 rfl rfl rfl
set_option maxRecDepth 20000 in
theorem c_X3_eachHasOneOf {l : Launch} {D : va_G} {dT : Nat → ClassId} {a : Nat → Nat} {v : Ob} {p0 : Int32} {res : Int32} (hf : f_X3_eachHasOneOf v p0 = some res) : CTi l yX3_eachHasOneOf cX3_eachHasOneOf 3 (some .boolean) ({ frames := 0, cells := 0, slots := 0, locals := 0 } : Room) D dT [.ref (a 0), .int p0] ([wF dT a v]) ([wF dT a v]) res := by
  refine CTi.of (by decide) (Nat.le_of_ble_eq_true rfl) rfl ?_
  intro p e s m args below meth c A C
  unfold f_X3_eachHasOneOf at hf
  refine wa_iconst (v := 0) C 1 dX3_eachHasOneOf_0 rfl rfl ?_
  refine wa_istore_n (lv' := [(0, .ref (a 0)), (1, .int p0), (2, .int (0 : Int32))]) C [1, 2, 0] 2 dX3_eachHasOneOf_1 rfl (Nat.le_of_ble_eq_true rfl) rfl ?_
  exact w_X3_eachHasOneOf_L2 C FUEL (0 : Int32) hf
theorem ks_X3_34 : KS RX3 34 yJ6_bitCount_0f7a4 cJ6_bitCount_0f7a4 1 (some .int) 1 := KS.mk q979 q962 q25 q963 ⟨by decide, by decide, by decide +kernel⟩
theorem kv_X3_40 : KV RX3 40 yX3_eachHasOneOf cX3_eachHasOneOf 3 (some .boolean) 1 := KV.mk q980 q982 qs33 q4 q983 ⟨by decide, by decide, by decide +kernel⟩
def f_X3_toTell_L11 (l1 : Int32) (z0 : Ob) : Nat → Int32 → Int32 → Int32 → Option (Int32)
  | 0, _, _, _ => none
  | n + 1, l2, l3, l4 => (if ((1 : Int32) <<< (l1 &&& 31)) ≤ l4 then some (l2) else (f_J6_bitCount_0f7a4 l4).bind (fun q3 => (if l3 ≤ q3 then bnd (l4 + 1) (fun x5 => f_X3_toTell_L11 l1 z0 n l2 l3 x5) else (f_X3_eachHasOneOf z0 l4).bind (fun q6 => (if q6 = 0 then bnd (l4 + 1) (fun x8 => f_X3_toTell_L11 l1 z0 n l2 l3 x8) else (f_J6_bitCount_0f7a4 l4).bind (fun q9 => bnd (l4 + 1) (fun x10 => f_X3_toTell_L11 l1 z0 n l4 q9 x10)))))))
def f_X3_toTell (v : Ob) (p0 : Int32) : Option (Int32) := bnd (((1 : Int32) <<< (p0 &&& 31)) - (1 : Int32)) (fun x1 => f_X3_toTell_L11 p0 v FUEL x1 p0 (0 : Int32))
set_option maxRecDepth 20000 in
theorem w_X3_toTell_L11 {p : Program} {l : Launch} {e : Env} {s : State} {m : MethodId} {args : Array Value} {below : List Frame} {meth : Method} {c : Code} {D : va_G} {A : Nat → Prop} {dT : Nat → ClassId} {a : Nat → Nat} {res : Int32} {l1 : Int32} {z0 : Ob} (C : Cx p s m args meth c cX3_toTell 5 RX3 (some .int) D A dT) : ∀ (n : Nat) (l2 : Int32) (l3 : Int32) (l4 : Int32), f_X3_toTell_L11 l1 z0 n l2 l3 l4 = some res → WA p l e ({ frames := 1, cells := 0, slots := 0, locals := 22 } : Room) s m args below meth c (MQ below (QI D dT A ([wF dT a z0]) res) args s 0 0 A) D A 0 0 5 11 ([wF dT a z0]) [(0, .ref (a 0)), (1, .int l1), (2, .int l2), (3, .int l3), (4, .int l4)] [] := by
  intro n
  induction n with
  | zero => intro l2 l3 l4 hf; cases hf
  | succ n ih =>
    intro l2 l3 l4 hf
    unfold f_X3_toTell_L11 at hf
    refine wa_iload C 4 13 dX3_toTell_11 rfl rfl ?_
    refine wa_iconst (v := 1) C 14 dX3_toTell_13 rfl rfl ?_
    refine wa_iload_n C 1 15 dX3_toTell_14 rfl rfl ?_
    refine wa_ishl C 16 dX3_toTell_15 rfl ?_
    refine wa_icmp_ge C 52 19 dX3_toTell_16 rfl rfl (fun c2 => ?_) (fun c2 => ?_)
    · replace hf := ite_t hf c2
      refine wa_iload_n C 2 53 dX3_toTell_52 rfl rfl ?_
      cases hf
      exact wa_iret C dX3_toTell_53 rfl rfl
    · replace hf := ite_f hf c2
      refine wa_iload C 4 21 dX3_toTell_19 rfl rfl ?_
      obtain ⟨q3, hq3, hf⟩ := bind_ex hf
      refine wa_callS0i (As := [.int l4]) C 24 dX3_toTell_21 rfl ks_X3_34 (c_J6_bitCount_0f7a4 hq3) ⟨rfl, rfl⟩ ⟨Nat.le_of_ble_eq_true rfl, Nat.le_of_ble_eq_true rfl⟩ rfl rfl ⟨Nat.zero_le _, Nat.zero_le _⟩ (Nat.le_of_ble_eq_true rfl) ?_
      refine wa_iload_n C 3 25 dX3_toTell_24 rfl rfl ?_
      refine wa_icmp_ge C 46 28 dX3_toTell_25 rfl rfl (fun c4 => ?_) (fun c4 => ?_)
      · replace hf := ite_t hf c4
        obtain ⟨x5, ex5, hf⟩ := bnd_ex hf
        refine wa_iinc (v := x5) (lv' := [(0, .ref (a 0)), (1, .int l1), (2, .int l2), (3, .int l3), (4, .int x5)]) C 4 [1, 2, 3, 4, 0] 49 dX3_toTell_46 rfl rfl (by rw [ex5]; rfl) (Nat.le_of_ble_eq_true rfl) rfl ?_
        refine wa_goto C 11 dX3_toTell_49 rfl ?_
        exact ih l2 l3 x5 hf
      · replace hf := ite_f hf c4
        refine wa_aload_n C 0 29 dX3_toTell_28 rfl rfl ?_
        refine wa_iload C 4 31 dX3_toTell_29 rfl rfl ?_
        obtain ⟨q6, hq6, hf⟩ := bind_ex hf
        refine wa_callVAi (b1 := 0) (q1 := 0) (ci := 3) (As := [.int l4]) C 34 dX3_toTell_31 rfl kv_X3_40 (c_X3_eachHasOneOf hq6) ⟨rfl, rfl⟩ ⟨Nat.le_of_ble_eq_true rfl, Nat.le_of_ble_eq_true rfl⟩ rfl rfl rfl rfl rfl ⟨Nat.zero_le _, Nat.zero_le _⟩ (Nat.le_of_ble_eq_true rfl) ?_
        refine wa_if_eq C 46 37 dX3_toTell_34 rfl rfl (fun c7 => ?_) (fun c7 => ?_)
        · replace hf := ite_t hf c7
          obtain ⟨x8, ex8, hf⟩ := bnd_ex hf
          refine wa_iinc (v := x8) (lv' := [(0, .ref (a 0)), (1, .int l1), (2, .int l2), (3, .int l3), (4, .int x8)]) C 4 [1, 2, 3, 4, 0] 49 dX3_toTell_46 rfl rfl (by rw [ex8]; rfl) (Nat.le_of_ble_eq_true rfl) rfl ?_
          refine wa_goto C 11 dX3_toTell_49 rfl ?_
          exact ih l2 l3 x8 hf
        · replace hf := ite_f hf c7
          refine wa_iload C 4 39 dX3_toTell_37 rfl rfl ?_
          refine wa_istore_n (lv' := [(0, .ref (a 0)), (1, .int l1), (2, .int l4), (3, .int l3), (4, .int l4)]) C [1, 2, 0, 3, 4] 40 dX3_toTell_39 rfl (Nat.le_of_ble_eq_true rfl) rfl ?_
          refine wa_iload C 4 42 dX3_toTell_40 rfl rfl ?_
          obtain ⟨q9, hq9, hf⟩ := bind_ex hf
          refine wa_callS0i (As := [.int l4]) C 45 dX3_toTell_42 rfl ks_X3_34 (c_J6_bitCount_0f7a4 hq9) ⟨rfl, rfl⟩ ⟨Nat.le_of_ble_eq_true rfl, Nat.le_of_ble_eq_true rfl⟩ rfl rfl ⟨Nat.zero_le _, Nat.zero_le _⟩ (Nat.le_of_ble_eq_true rfl) ?_
          refine wa_istore_n (lv' := [(0, .ref (a 0)), (1, .int l1), (2, .int l4), (3, .int q9), (4, .int l4)]) C [1, 2, 3, 0, 4] 46 dX3_toTell_45 rfl (Nat.le_of_ble_eq_true rfl) rfl ?_
          obtain ⟨x10, ex10, hf⟩ := bnd_ex hf
          refine wa_iinc (v := x10) (lv' := [(0, .ref (a 0)), (1, .int l1), (2, .int l4), (3, .int q9), (4, .int x10)]) C 4 [1, 2, 3, 4, 0] 49 dX3_toTell_46 rfl rfl (by rw [ex10]; rfl) (Nat.le_of_ble_eq_true rfl) rfl ?_
          refine wa_goto C 11 dX3_toTell_49 rfl ?_
          exact ih l4 q9 x10 hf
set_option maxRecDepth 20000 in
theorem c_X3_toTell {l : Launch} {D : va_G} {dT : Nat → ClassId} {a : Nat → Nat} {v : Ob} {p0 : Int32} {res : Int32} (hf : f_X3_toTell v p0 = some res) : CTi l yX3_toTell cX3_toTell 5 (some .int) ({ frames := 1, cells := 0, slots := 0, locals := 22 } : Room) D dT [.ref (a 0), .int p0] ([wF dT a v]) ([wF dT a v]) res := by
  refine CTi.of (by decide) (Nat.le_of_ble_eq_true rfl) rfl ?_
  intro p e s m args below meth c A C
  unfold f_X3_toTell at hf
  refine wa_iconst (v := 1) C 1 dX3_toTell_0 rfl rfl ?_
  refine wa_iload_n C 1 2 dX3_toTell_1 rfl rfl ?_
  refine wa_ishl C 3 dX3_toTell_2 rfl ?_
  refine wa_iconst (v := 1) C 4 dX3_toTell_3 rfl rfl ?_
  refine wa_isub C 5 dX3_toTell_4 rfl ?_
  obtain ⟨x1, ex1, hf⟩ := bnd_ex hf
  refine wa_topi ex1 ?_
  refine wa_istore_n (lv' := [(0, .ref (a 0)), (1, .int p0), (2, .int x1)]) C [1, 2, 0] 6 dX3_toTell_5 rfl (Nat.le_of_ble_eq_true rfl) rfl ?_
  refine wa_iload_n C 1 7 dX3_toTell_6 rfl rfl ?_
  refine wa_istore_n (lv' := [(0, .ref (a 0)), (1, .int p0), (2, .int x1), (3, .int p0)]) C [1, 2, 3, 0] 8 dX3_toTell_7 rfl (Nat.le_of_ble_eq_true rfl) rfl ?_
  refine wa_iconst (v := 0) C 9 dX3_toTell_8 rfl rfl ?_
  refine wa_istore (lv' := [(0, .ref (a 0)), (1, .int p0), (2, .int x1), (3, .int p0), (4, .int (0 : Int32))]) C [1, 2, 3, 4, 0] 11 dX3_toTell_9 rfl (Nat.le_of_ble_eq_true rfl) rfl ?_
  exact w_X3_toTell_L11 C FUEL x1 p0 (0 : Int32) hf
def f_X3_friendsOfAll_J36 (k4 : Int32 → Int32 → Option (Int32)) (l1 : Int32) (z0 : Ob) (l2 : Int32) (l3 : Int32) : Option (Int32) := grd (vi l3 12) ((if ((l1 >>> ((z0.2 2 (l3).toNatClampNeg) &&& 31)) &&& (1 : Int32)) = 0 then bnd (l3 + 1) (fun x6 => k4 l2 x6) else grd (vi l3 12) (bnd (l2 ||| ((1 : Int32) <<< ((z0.2 1 (l3).toNatClampNeg) &&& 31))) (fun x8 => bnd (l3 + 1) (fun x9 => k4 x8 x9)))))
def f_X3_friendsOfAll_L4 (l1 : Int32) (z0 : Ob) : Nat → Int32 → Int32 → Option (Int32)
  | 0, _, _ => none
  | n + 1, l2, l3 => (if (z0.1 0) ≤ l3 then some (l2) else grd (vi l3 12) ((if ((l1 >>> ((z0.2 1 (l3).toNatClampNeg) &&& 31)) &&& (1 : Int32)) = 0 then f_X3_friendsOfAll_J36 (f_X3_friendsOfAll_L4 l1 z0 n) l1 z0 l2 l3 else grd (vi l3 12) (bnd (l2 ||| ((1 : Int32) <<< ((z0.2 2 (l3).toNatClampNeg) &&& 31))) (fun x11 => f_X3_friendsOfAll_J36 (f_X3_friendsOfAll_L4 l1 z0 n) l1 z0 x11 l3)))))
def f_X3_friendsOfAll (v : Ob) (p0 : Int32) : Option (Int32) := f_X3_friendsOfAll_L4 p0 v FUEL (0 : Int32) (0 : Int32)
set_option maxRecDepth 20000 in
theorem w_X3_friendsOfAll_J36 {p : Program} {l : Launch} {e : Env} {s : State} {m : MethodId} {args : Array Value} {below : List Frame} {meth : Method} {c : Code} {D : va_G} {A : Nat → Prop} {dT : Nat → ClassId} {a : Nat → Nat} {res : Int32} {l1 : Int32} {z0 : Ob} (C : Cx p s m args meth c cX3_friendsOfAll 4 RX3 (some .int) D A dT) {k4 : Int32 → Int32 → Option (Int32)} (hk4 : ∀ (l2 : Int32) (l3 : Int32), k4 l2 l3 = some res → WA p l e ({ frames := 0, cells := 0, slots := 0, locals := 0 } : Room) s m args below meth c (MQ below (QI D dT A ([wF dT a z0]) res) args s 0 0 A) D A 0 0 4 4 ([wF dT a z0]) [(0, .ref (a 0)), (1, .int l1), (2, .int l2), (3, .int l3)] []) : ∀ (l2 : Int32) (l3 : Int32), f_X3_friendsOfAll_J36 k4 l1 z0 l2 l3 = some res → WA p l e ({ frames := 0, cells := 0, slots := 0, locals := 0 } : Room) s m args below meth c (MQ below (QI D dT A ([wF dT a z0]) res) args s 0 0 A) D A 0 0 4 36 ([wF dT a z0]) [(0, .ref (a 0)), (1, .int l1), (2, .int l2), (3, .int l3)] [] := by
  intro l2 l3 hf
  unfold f_X3_friendsOfAll_J36 at hf
  refine wa_iload_n C 1 37 dX3_friendsOfAll_36 rfl rfl ?_
  refine wa_aload_n C 0 38 dX3_friendsOfAll_37 rfl rfl ?_
  refine wa_get C 41 0 0 2 dX3_friendsOfAll_38 rfl iX3 q128 rfl (Nat.le_of_ble_eq_true rfl) rfl rfl rfl ?_
  refine wa_iload_n C 3 42 dX3_friendsOfAll_41 rfl rfl ?_
  obtain ⟨g4, hf⟩ := grd_ex hf
  refine wa_iald C 43 0 2 dX3_friendsOfAll_42 rfl rfl rfl (vi_in g4) ?_
  refine wa_ishr C 44 dX3_friendsOfAll_43 rfl ?_
  refine wa_iconst (v := 1) C 45 dX3_friendsOfAll_44 rfl rfl ?_
  refine wa_iand C 46 dX3_friendsOfAll_45 rfl ?_
  refine wa_if_eq C 60 49 dX3_friendsOfAll_46 rfl rfl (fun c5 => ?_) (fun c5 => ?_)
  · replace hf := ite_t hf c5
    obtain ⟨x6, ex6, hf⟩ := bnd_ex hf
    refine wa_iinc (v := x6) (lv' := [(0, .ref (a 0)), (1, .int l1), (2, .int l2), (3, .int x6)]) C 3 [1, 2, 3, 0] 63 dX3_friendsOfAll_60 rfl rfl (by rw [ex6]; rfl) (Nat.le_of_ble_eq_true rfl) rfl ?_
    refine wa_goto C 4 dX3_friendsOfAll_63 rfl ?_
    exact hk4 l2 x6 hf
  · replace hf := ite_f hf c5
    refine wa_iload_n C 2 50 dX3_friendsOfAll_49 rfl rfl ?_
    refine wa_iconst (v := 1) C 51 dX3_friendsOfAll_50 rfl rfl ?_
    refine wa_aload_n C 0 52 dX3_friendsOfAll_51 rfl rfl ?_
    refine wa_get C 55 0 0 1 dX3_friendsOfAll_52 rfl iX3 q127 rfl (Nat.le_of_ble_eq_true rfl) rfl rfl rfl ?_
    refine wa_iload_n C 3 56 dX3_friendsOfAll_55 rfl rfl ?_
    obtain ⟨g7, hf⟩ := grd_ex hf
    refine wa_iald C 57 0 1 dX3_friendsOfAll_56 rfl rfl rfl (vi_in g7) ?_
    refine wa_ishl C 58 dX3_friendsOfAll_57 rfl ?_
    refine wa_ior C 59 dX3_friendsOfAll_58 rfl ?_
    obtain ⟨x8, ex8, hf⟩ := bnd_ex hf
    refine wa_topi ex8 ?_
    refine wa_istore_n (lv' := [(0, .ref (a 0)), (1, .int l1), (2, .int x8), (3, .int l3)]) C [1, 2, 0, 3] 60 dX3_friendsOfAll_59 rfl (Nat.le_of_ble_eq_true rfl) rfl ?_
    obtain ⟨x9, ex9, hf⟩ := bnd_ex hf
    refine wa_iinc (v := x9) (lv' := [(0, .ref (a 0)), (1, .int l1), (2, .int x8), (3, .int x9)]) C 3 [1, 2, 3, 0] 63 dX3_friendsOfAll_60 rfl rfl (by rw [ex9]; rfl) (Nat.le_of_ble_eq_true rfl) rfl ?_
    refine wa_goto C 4 dX3_friendsOfAll_63 rfl ?_
    exact hk4 x8 x9 hf
set_option maxRecDepth 20000 in
theorem w_X3_friendsOfAll_L4 {p : Program} {l : Launch} {e : Env} {s : State} {m : MethodId} {args : Array Value} {below : List Frame} {meth : Method} {c : Code} {D : va_G} {A : Nat → Prop} {dT : Nat → ClassId} {a : Nat → Nat} {res : Int32} {l1 : Int32} {z0 : Ob} (C : Cx p s m args meth c cX3_friendsOfAll 4 RX3 (some .int) D A dT) : ∀ (n : Nat) (l2 : Int32) (l3 : Int32), f_X3_friendsOfAll_L4 l1 z0 n l2 l3 = some res → WA p l e ({ frames := 0, cells := 0, slots := 0, locals := 0 } : Room) s m args below meth c (MQ below (QI D dT A ([wF dT a z0]) res) args s 0 0 A) D A 0 0 4 4 ([wF dT a z0]) [(0, .ref (a 0)), (1, .int l1), (2, .int l2), (3, .int l3)] [] := by
  intro n
  induction n with
  | zero => intro l2 l3 hf; cases hf
  | succ n ih =>
    intro l2 l3 hf
    unfold f_X3_friendsOfAll_L4 at hf
    refine wa_iload_n C 3 5 dX3_friendsOfAll_4 rfl rfl ?_
    refine wa_aload_n C 0 6 dX3_friendsOfAll_5 rfl rfl ?_
    refine wa_get C 9 0 0 0 dX3_friendsOfAll_6 rfl iX3 q124 rfl (Nat.le_of_ble_eq_true rfl) rfl rfl rfl ?_
    refine wa_icmp_ge C 66 12 dX3_friendsOfAll_9 rfl rfl (fun c1 => ?_) (fun c1 => ?_)
    · replace hf := ite_t hf c1
      refine wa_iload_n C 2 67 dX3_friendsOfAll_66 rfl rfl ?_
      cases hf
      exact wa_iret C dX3_friendsOfAll_67 rfl rfl
    · replace hf := ite_f hf c1
      refine wa_iload_n C 1 13 dX3_friendsOfAll_12 rfl rfl ?_
      refine wa_aload_n C 0 14 dX3_friendsOfAll_13 rfl rfl ?_
      refine wa_get C 17 0 0 1 dX3_friendsOfAll_14 rfl iX3 q127 rfl (Nat.le_of_ble_eq_true rfl) rfl rfl rfl ?_
      refine wa_iload_n C 3 18 dX3_friendsOfAll_17 rfl rfl ?_
      obtain ⟨g2, hf⟩ := grd_ex hf
      refine wa_iald C 19 0 1 dX3_friendsOfAll_18 rfl rfl rfl (vi_in g2) ?_
      refine wa_ishr C 20 dX3_friendsOfAll_19 rfl ?_
      refine wa_iconst (v := 1) C 21 dX3_friendsOfAll_20 rfl rfl ?_
      refine wa_iand C 22 dX3_friendsOfAll_21 rfl ?_
      refine wa_if_eq C 36 25 dX3_friendsOfAll_22 rfl rfl (fun c3 => ?_) (fun c3 => ?_)
      · replace hf := ite_t hf c3
        exact w_X3_friendsOfAll_J36 C ih l2 l3 hf
      · replace hf := ite_f hf c3
        refine wa_iload_n C 2 26 dX3_friendsOfAll_25 rfl rfl ?_
        refine wa_iconst (v := 1) C 27 dX3_friendsOfAll_26 rfl rfl ?_
        refine wa_aload_n C 0 28 dX3_friendsOfAll_27 rfl rfl ?_
        refine wa_get C 31 0 0 2 dX3_friendsOfAll_28 rfl iX3 q128 rfl (Nat.le_of_ble_eq_true rfl) rfl rfl rfl ?_
        refine wa_iload_n C 3 32 dX3_friendsOfAll_31 rfl rfl ?_
        obtain ⟨g10, hf⟩ := grd_ex hf
        refine wa_iald C 33 0 2 dX3_friendsOfAll_32 rfl rfl rfl (vi_in g10) ?_
        refine wa_ishl C 34 dX3_friendsOfAll_33 rfl ?_
        refine wa_ior C 35 dX3_friendsOfAll_34 rfl ?_
        obtain ⟨x11, ex11, hf⟩ := bnd_ex hf
        refine wa_topi ex11 ?_
        refine wa_istore_n (lv' := [(0, .ref (a 0)), (1, .int l1), (2, .int x11), (3, .int l3)]) C [1, 2, 0, 3] 36 dX3_friendsOfAll_35 rfl (Nat.le_of_ble_eq_true rfl) rfl ?_
        exact w_X3_friendsOfAll_J36 C ih x11 l3 hf
set_option maxRecDepth 20000 in
theorem c_X3_friendsOfAll {l : Launch} {D : va_G} {dT : Nat → ClassId} {a : Nat → Nat} {v : Ob} {p0 : Int32} {res : Int32} (hf : f_X3_friendsOfAll v p0 = some res) : CTi l yX3_friendsOfAll cX3_friendsOfAll 4 (some .int) ({ frames := 0, cells := 0, slots := 0, locals := 0 } : Room) D dT [.ref (a 0), .int p0] ([wF dT a v]) ([wF dT a v]) res := by
  refine CTi.of (by decide) (Nat.le_of_ble_eq_true rfl) rfl ?_
  intro p e s m args below meth c A C
  unfold f_X3_friendsOfAll at hf
  refine wa_iconst (v := 0) C 1 dX3_friendsOfAll_0 rfl rfl ?_
  refine wa_istore_n (lv' := [(0, .ref (a 0)), (1, .int p0), (2, .int (0 : Int32))]) C [1, 2, 0] 2 dX3_friendsOfAll_1 rfl (Nat.le_of_ble_eq_true rfl) rfl ?_
  refine wa_iconst (v := 0) C 3 dX3_friendsOfAll_2 rfl rfl ?_
  refine wa_istore_n (lv' := [(0, .ref (a 0)), (1, .int p0), (2, .int (0 : Int32)), (3, .int (0 : Int32))]) C [1, 2, 3, 0] 4 dX3_friendsOfAll_3 rfl (Nat.le_of_ble_eq_true rfl) rfl ?_
  exact w_X3_friendsOfAll_L4 C FUEL (0 : Int32) (0 : Int32) hf
