def f_X10_copyFrom (v : Ob) (v0 : Ob) : Option (Ob) := bnd (upd v.1 0 (v0.1 0), v.2) (fun y1 => bnd (upd y1.1 1 (v0.1 1), y1.2) (fun y2 => bnd (upd y2.1 2 (v0.1 2), y2.2) (fun y3 => grd (cpg (0 : Int32) (0 : Int32) (12 : Int32) 12 12) (bnd (y3.1, sA y3.2 1 (va_cpy (v0.2 1) (y3.2 1) ((0 : Int32)).toNatClampNeg ((0 : Int32)).toNatClampNeg ((12 : Int32)).toNatClampNeg)) (fun y5 => grd (cpg (0 : Int32) (0 : Int32) (12 : Int32) 12 12) (bnd (y5.1, sA y5.2 2 (va_cpy (v0.2 2) (y5.2 2) ((0 : Int32)).toNatClampNeg ((0 : Int32)).toNatClampNeg ((12 : Int32)).toNatClampNeg)) (fun y7 => grd (cpg (0 : Int32) (0 : Int32) (12 : Int32) 12 12) (bnd (y7.1, sA y7.2 3 (va_cpy (v0.2 3) (y7.2 3) ((0 : Int32)).toNatClampNeg ((0 : Int32)).toNatClampNeg ((12 : Int32)).toNatClampNeg)) (fun y9 => grd (cpg (0 : Int32) (0 : Int32) (12 : Int32) 12 12) (bnd (y9.1, sA y9.2 4 (va_cpy (v0.2 4) (y9.2 4) ((0 : Int32)).toNatClampNeg ((0 : Int32)).toNatClampNeg ((12 : Int32)).toNatClampNeg)) (fun y11 => grd (cpg (0 : Int32) (0 : Int32) (12 : Int32) 12 12) (bnd (y11.1, sA y11.2 5 (va_cpy (v0.2 5) (y11.2 5) ((0 : Int32)).toNatClampNeg ((0 : Int32)).toNatClampNeg ((12 : Int32)).toNatClampNeg)) (fun y13 => grd (cpg (0 : Int32) (0 : Int32) (13 : Int32) 13 13) (bnd (y13.1, sA y13.2 6 (va_cpy (v0.2 6) (y13.2 6) ((0 : Int32)).toNatClampNeg ((0 : Int32)).toNatClampNeg ((13 : Int32)).toNatClampNeg)) (fun y15 => grd (cpg (0 : Int32) (0 : Int32) (13 : Int32) 13 13) (bnd (y15.1, sA y15.2 7 (va_cpy (v0.2 7) (y15.2 7) ((0 : Int32)).toNatClampNeg ((0 : Int32)).toNatClampNeg ((13 : Int32)).toNatClampNeg)) (fun y17 => some (y17))))))))))))))))))
set_option maxRecDepth 20000 in
theorem c_X10_copyFrom {l : Launch} {D : va_G} {dT : Nat → ClassId} {a : Nat → Nat} {a0 : Nat → Nat} {v : Ob} {v0 : Ob} {res : Ob} (hf : f_X10_copyFrom v v0 = some res) : CTv l yX10_copyFrom cX10_copyFrom 2 none ({ frames := 3, cells := 0, slots := 0, locals := 60 } : Room) D dT [.ref (a 0), .ref (a0 0)] ([wV dT a v, wV dT a0 v0]) ([wV dT a res, wV dT a0 v0]) := by
  refine CTv.of (by decide) (Nat.le_of_ble_eq_true rfl) rfl ?_
  intro p e s m args below meth c A C
  unfold f_X10_copyFrom at hf
  refine wa_aload_n C 0 1 dX10_copyFrom_0 rfl rfl ?_
  refine wa_aload_n C 1 2 dX10_copyFrom_1 rfl rfl ?_
  refine wa_get C 5 1 0 0 dX10_copyFrom_2 rfl iX10 q48 rfl (Nat.le_of_ble_eq_true rfl) rfl rfl rfl ?_
  obtain ⟨y1, ey1, hf⟩ := bnd_ex hf
  refine wa_put (ws' := [wV dT a y1, wV dT a0 v0]) C 8 0 0 0 tyX10 dX10_copyFrom_5 rfl iX10 tyX10_ok nmX10 q48 rfl (Nat.le_of_ble_eq_true rfl) rfl rfl rfl rfl rfl (Nat.le_of_ble_eq_true rfl) (by rw [ey1]; rfl) ?_
  refine wa_aload_n C 0 9 dX10_copyFrom_8 rfl rfl ?_
  refine wa_aload_n C 1 10 dX10_copyFrom_9 rfl rfl ?_
  refine wa_get C 13 1 0 1 dX10_copyFrom_10 rfl iX10 q56 rfl (Nat.le_of_ble_eq_true rfl) rfl rfl rfl ?_
  obtain ⟨y2, ey2, hf⟩ := bnd_ex hf
  refine wa_put (ws' := [wV dT a y2, wV dT a0 v0]) C 16 0 0 1 tyX10 dX10_copyFrom_13 rfl iX10 tyX10_ok nmX10 q56 rfl (Nat.le_of_ble_eq_true rfl) rfl rfl rfl rfl rfl (Nat.le_of_ble_eq_true rfl) (by rw [ey2]; rfl) ?_
  refine wa_aload_n C 0 17 dX10_copyFrom_16 rfl rfl ?_
  refine wa_aload_n C 1 18 dX10_copyFrom_17 rfl rfl ?_
  refine wa_get C 21 1 0 2 dX10_copyFrom_18 rfl iX10 q61 rfl (Nat.le_of_ble_eq_true rfl) rfl rfl rfl ?_
  obtain ⟨y3, ey3, hf⟩ := bnd_ex hf
  refine wa_put (ws' := [wV dT a y3, wV dT a0 v0]) C 24 0 0 2 tyX10 dX10_copyFrom_21 rfl iX10 tyX10_ok nmX10 q61 rfl (Nat.le_of_ble_eq_true rfl) rfl rfl rfl rfl rfl (Nat.le_of_ble_eq_true rfl) (by rw [ey3]; rfl) ?_
  refine wa_aload_n C 1 25 dX10_copyFrom_24 rfl rfl ?_
  refine wa_get C 28 1 0 3 dX10_copyFrom_25 rfl iX10 q65 rfl (Nat.le_of_ble_eq_true rfl) rfl rfl rfl ?_
  refine wa_iconst (v := 0) C 29 dX10_copyFrom_28 rfl rfl ?_
  refine wa_aload_n C 0 30 dX10_copyFrom_29 rfl rfl ?_
  refine wa_get C 33 0 0 3 dX10_copyFrom_30 rfl iX10 q65 rfl (Nat.le_of_ble_eq_true rfl) rfl rfl rfl ?_
  refine wa_iconst (v := 0) C 34 dX10_copyFrom_33 rfl rfl ?_
  refine wa_bipush (v := 12) C 36 dX10_copyFrom_34 rfl rfl ?_
  obtain ⟨g4, hf⟩ := grd_ex hf
  obtain ⟨y5, ey5, hf⟩ := bnd_ex hf
  refine wa_copyi (ws' := [wV dT a y5, wV dT a0 v0]) C 39 1 1 0 1 dX10_copyFrom_36 rfl q446 q448 q447 q24 rfl rfl rfl rfl g4 (Nat.le_of_ble_eq_true rfl) (Nat.le_of_ble_eq_true rfl) (by rw [ey5]; rfl) ?_
  refine wa_aload_n C 1 40 dX10_copyFrom_39 rfl rfl ?_
  refine wa_get C 43 1 0 4 dX10_copyFrom_40 rfl iX10 q70 rfl (Nat.le_of_ble_eq_true rfl) rfl rfl rfl ?_
  refine wa_iconst (v := 0) C 44 dX10_copyFrom_43 rfl rfl ?_
  refine wa_aload_n C 0 45 dX10_copyFrom_44 rfl rfl ?_
  refine wa_get C 48 0 0 4 dX10_copyFrom_45 rfl iX10 q70 rfl (Nat.le_of_ble_eq_true rfl) rfl rfl rfl ?_
  refine wa_iconst (v := 0) C 49 dX10_copyFrom_48 rfl rfl ?_
  refine wa_bipush (v := 12) C 51 dX10_copyFrom_49 rfl rfl ?_
  obtain ⟨g6, hf⟩ := grd_ex hf
  obtain ⟨y7, ey7, hf⟩ := bnd_ex hf
  refine wa_copyi (ws' := [wV dT a y7, wV dT a0 v0]) C 54 1 2 0 2 dX10_copyFrom_51 rfl q446 q448 q447 q24 rfl rfl rfl rfl g6 (Nat.le_of_ble_eq_true rfl) (Nat.le_of_ble_eq_true rfl) (by rw [ey7]; rfl) ?_
  refine wa_aload_n C 1 55 dX10_copyFrom_54 rfl rfl ?_
  refine wa_get C 58 1 0 5 dX10_copyFrom_55 rfl iX10 q78 rfl (Nat.le_of_ble_eq_true rfl) rfl rfl rfl ?_
  refine wa_iconst (v := 0) C 59 dX10_copyFrom_58 rfl rfl ?_
  refine wa_aload_n C 0 60 dX10_copyFrom_59 rfl rfl ?_
  refine wa_get C 63 0 0 5 dX10_copyFrom_60 rfl iX10 q78 rfl (Nat.le_of_ble_eq_true rfl) rfl rfl rfl ?_
  refine wa_iconst (v := 0) C 64 dX10_copyFrom_63 rfl rfl ?_
  refine wa_bipush (v := 12) C 66 dX10_copyFrom_64 rfl rfl ?_
  obtain ⟨g8, hf⟩ := grd_ex hf
  obtain ⟨y9, ey9, hf⟩ := bnd_ex hf
  refine wa_copyi (ws' := [wV dT a y9, wV dT a0 v0]) C 69 1 3 0 3 dX10_copyFrom_66 rfl q446 q448 q447 q24 rfl rfl rfl rfl g8 (Nat.le_of_ble_eq_true rfl) (Nat.le_of_ble_eq_true rfl) (by rw [ey9]; rfl) ?_
  refine wa_aload_n C 1 70 dX10_copyFrom_69 rfl rfl ?_
  refine wa_get C 73 1 0 6 dX10_copyFrom_70 rfl iX10 q81 rfl (Nat.le_of_ble_eq_true rfl) rfl rfl rfl ?_
  refine wa_iconst (v := 0) C 74 dX10_copyFrom_73 rfl rfl ?_
  refine wa_aload_n C 0 75 dX10_copyFrom_74 rfl rfl ?_
  refine wa_get C 78 0 0 6 dX10_copyFrom_75 rfl iX10 q81 rfl (Nat.le_of_ble_eq_true rfl) rfl rfl rfl ?_
  refine wa_iconst (v := 0) C 79 dX10_copyFrom_78 rfl rfl ?_
  refine wa_bipush (v := 12) C 81 dX10_copyFrom_79 rfl rfl ?_
  obtain ⟨g10, hf⟩ := grd_ex hf
  obtain ⟨y11, ey11, hf⟩ := bnd_ex hf
  refine wa_copyi (ws' := [wV dT a y11, wV dT a0 v0]) C 84 1 4 0 4 dX10_copyFrom_81 rfl q446 q448 q447 q24 rfl rfl rfl rfl g10 (Nat.le_of_ble_eq_true rfl) (Nat.le_of_ble_eq_true rfl) (by rw [ey11]; rfl) ?_
  refine wa_aload_n C 1 85 dX10_copyFrom_84 rfl rfl ?_
  refine wa_get C 88 1 0 7 dX10_copyFrom_85 rfl iX10 q83 rfl (Nat.le_of_ble_eq_true rfl) rfl rfl rfl ?_
  refine wa_iconst (v := 0) C 89 dX10_copyFrom_88 rfl rfl ?_
  refine wa_aload_n C 0 90 dX10_copyFrom_89 rfl rfl ?_
  refine wa_get C 93 0 0 7 dX10_copyFrom_90 rfl iX10 q83 rfl (Nat.le_of_ble_eq_true rfl) rfl rfl rfl ?_
  refine wa_iconst (v := 0) C 94 dX10_copyFrom_93 rfl rfl ?_
  refine wa_bipush (v := 12) C 96 dX10_copyFrom_94 rfl rfl ?_
  obtain ⟨g12, hf⟩ := grd_ex hf
  obtain ⟨y13, ey13, hf⟩ := bnd_ex hf
  refine wa_copyi (ws' := [wV dT a y13, wV dT a0 v0]) C 99 1 5 0 5 dX10_copyFrom_96 rfl q446 q448 q447 q24 rfl rfl rfl rfl g12 (Nat.le_of_ble_eq_true rfl) (Nat.le_of_ble_eq_true rfl) (by rw [ey13]; rfl) ?_
  refine wa_aload_n C 1 100 dX10_copyFrom_99 rfl rfl ?_
  refine wa_get C 103 1 0 8 dX10_copyFrom_100 rfl iX10 q87 rfl (Nat.le_of_ble_eq_true rfl) rfl rfl rfl ?_
  refine wa_iconst (v := 0) C 104 dX10_copyFrom_103 rfl rfl ?_
  refine wa_aload_n C 0 105 dX10_copyFrom_104 rfl rfl ?_
  refine wa_get C 108 0 0 8 dX10_copyFrom_105 rfl iX10 q87 rfl (Nat.le_of_ble_eq_true rfl) rfl rfl rfl ?_
  refine wa_iconst (v := 0) C 109 dX10_copyFrom_108 rfl rfl ?_
  refine wa_bipush (v := 13) C 111 dX10_copyFrom_109 rfl rfl ?_
  obtain ⟨g14, hf⟩ := grd_ex hf
  obtain ⟨y15, ey15, hf⟩ := bnd_ex hf
  refine wa_copyi (ws' := [wV dT a y15, wV dT a0 v0]) C 114 1 6 0 6 dX10_copyFrom_111 rfl q446 q448 q447 q24 rfl rfl rfl rfl g14 (Nat.le_of_ble_eq_true rfl) (Nat.le_of_ble_eq_true rfl) (by rw [ey15]; rfl) ?_
  refine wa_aload_n C 1 115 dX10_copyFrom_114 rfl rfl ?_
  refine wa_get C 118 1 0 9 dX10_copyFrom_115 rfl iX10 q93 rfl (Nat.le_of_ble_eq_true rfl) rfl rfl rfl ?_
  refine wa_iconst (v := 0) C 119 dX10_copyFrom_118 rfl rfl ?_
  refine wa_aload_n C 0 120 dX10_copyFrom_119 rfl rfl ?_
  refine wa_get C 123 0 0 9 dX10_copyFrom_120 rfl iX10 q93 rfl (Nat.le_of_ble_eq_true rfl) rfl rfl rfl ?_
  refine wa_iconst (v := 0) C 124 dX10_copyFrom_123 rfl rfl ?_
  refine wa_bipush (v := 13) C 126 dX10_copyFrom_124 rfl rfl ?_
  obtain ⟨g16, hf⟩ := grd_ex hf
  obtain ⟨y17, ey17, hf⟩ := bnd_ex hf
  refine wa_copyi (ws' := [wV dT a y17, wV dT a0 v0]) C 129 1 7 0 7 dX10_copyFrom_126 rfl q446 q448 q447 q24 rfl rfl rfl rfl g16 (Nat.le_of_ble_eq_true rfl) (Nat.le_of_ble_eq_true rfl) (by rw [ey17]; rfl) ?_
  cases hf
  exact wa_vret C dX10_copyFrom_129 rfl
def f_X10_clear (v : Ob) : Option (Ob) := bnd (upd v.1 0 (0 : Int32), v.2) (fun y1 => bnd (upd y1.1 1 (0 : Int32), y1.2) (fun y2 => bnd (upd y2.1 2 (0 : Int32), y2.2) (fun y3 => some (y3))))
set_option maxRecDepth 20000 in
theorem c_X10_clear {l : Launch} {D : va_G} {dT : Nat → ClassId} {a : Nat → Nat} {v : Ob} {res : Ob} (hf : f_X10_clear v = some res) : CTv l yX10_clear cX10_clear 1 none ({ frames := 0, cells := 0, slots := 0, locals := 0 } : Room) D dT [.ref (a 0)] ([wV dT a v]) ([wV dT a res]) := by
  refine CTv.of (by decide) (Nat.le_of_ble_eq_true rfl) rfl ?_
  intro p e s m args below meth c A C
  unfold f_X10_clear at hf
  refine wa_aload_n C 0 1 dX10_clear_0 rfl rfl ?_
  refine wa_iconst (v := 0) C 2 dX10_clear_1 rfl rfl ?_
  obtain ⟨y1, ey1, hf⟩ := bnd_ex hf
  refine wa_put (ws' := [wV dT a y1]) C 5 0 0 0 tyX10 dX10_clear_2 rfl iX10 tyX10_ok nmX10 q48 rfl (Nat.le_of_ble_eq_true rfl) rfl rfl rfl rfl rfl (Nat.le_of_ble_eq_true rfl) (by rw [ey1]; rfl) ?_
  refine wa_aload_n C 0 6 dX10_clear_5 rfl rfl ?_
  refine wa_iconst (v := 0) C 7 dX10_clear_6 rfl rfl ?_
  obtain ⟨y2, ey2, hf⟩ := bnd_ex hf
  refine wa_put (ws' := [wV dT a y2]) C 10 0 0 1 tyX10 dX10_clear_7 rfl iX10 tyX10_ok nmX10 q56 rfl (Nat.le_of_ble_eq_true rfl) rfl rfl rfl rfl rfl (Nat.le_of_ble_eq_true rfl) (by rw [ey2]; rfl) ?_
  refine wa_aload_n C 0 11 dX10_clear_10 rfl rfl ?_
  refine wa_iconst (v := 0) C 12 dX10_clear_11 rfl rfl ?_
  obtain ⟨y3, ey3, hf⟩ := bnd_ex hf
  refine wa_put (ws' := [wV dT a y3]) C 15 0 0 2 tyX10 dX10_clear_12 rfl iX10 tyX10_ok nmX10 q61 rfl (Nat.le_of_ble_eq_true rfl) rfl rfl rfl rfl rfl (Nat.le_of_ble_eq_true rfl) (by rw [ey3]; rfl) ?_
  cases hf
  exact wa_vret C dX10_clear_15 rfl
def f_X10_addPerson (v : Ob) (p0 : Int32) : Option (Ob) := (if (v.1 0) < (12 : Int32) then grd (vi (v.1 0) 12) (bnd (v.1, uA v.2 1 ((v.1 0)).toNatClampNeg p0) (fun y3 => grd (vi (y3.1 0) 12) (bnd (y3.1, uA y3.2 2 ((y3.1 0)).toNatClampNeg (-1 : Int32)) (fun y5 => grd (vi (y5.1 0) 12) (bnd (y5.1, uA y5.2 3 ((y5.1 0)).toNatClampNeg (0 : Int32)) (fun y7 => grd (vi (y7.1 0) 12) (bnd (y7.1, uA y7.2 4 ((y7.1 0)).toNatClampNeg (0 : Int32)) (fun y9 => grd (vi (y9.1 0) 12) (bnd (y9.1, uA y9.2 5 ((y9.1 0)).toNatClampNeg (0 : Int32)) (fun y11 => bnd (upd y11.1 0 ((y11.1 0) + (1 : Int32)), y11.2) (fun y12 => some (y12)))))))))))) else some (v))
set_option maxRecDepth 20000 in
theorem c_X10_addPerson {l : Launch} {D : va_G} {dT : Nat → ClassId} {a : Nat → Nat} {v : Ob} {p0 : Int32} {res : Ob} (hf : f_X10_addPerson v p0 = some res) : CTv l yX10_addPerson cX10_addPerson 2 none ({ frames := 0, cells := 0, slots := 0, locals := 0 } : Room) D dT [.ref (a 0), .int p0] ([wV dT a v]) ([wV dT a res]) := by
  refine CTv.of (by decide) (Nat.le_of_ble_eq_true rfl) rfl ?_
  intro p e s m args below meth c A C
  unfold f_X10_addPerson at hf
  refine wa_aload_n C 0 1 dX10_addPerson_0 rfl rfl ?_
  refine wa_get C 4 0 0 0 dX10_addPerson_1 rfl iX10 q48 rfl (Nat.le_of_ble_eq_true rfl) rfl rfl rfl ?_
  refine wa_bipush (v := 12) C 6 dX10_addPerson_4 rfl rfl ?_
  refine wa_icmp_lt C 10 9 dX10_addPerson_6 rfl rfl (fun c1 => ?_) (fun c1 => ?_)
  · replace hf := ite_t hf c1
    refine wa_aload_n C 0 11 dX10_addPerson_10 rfl rfl ?_
    refine wa_get C 14 0 0 3 dX10_addPerson_11 rfl iX10 q65 rfl (Nat.le_of_ble_eq_true rfl) rfl rfl rfl ?_
    refine wa_aload_n C 0 15 dX10_addPerson_14 rfl rfl ?_
    refine wa_get C 18 0 0 0 dX10_addPerson_15 rfl iX10 q48 rfl (Nat.le_of_ble_eq_true rfl) rfl rfl rfl ?_
    refine wa_iload_n C 1 19 dX10_addPerson_18 rfl rfl ?_
    obtain ⟨g2, hf⟩ := grd_ex hf
    obtain ⟨y3, ey3, hf⟩ := bnd_ex hf
    refine wa_iast (ws' := [wV dT a y3]) C 20 0 1 dX10_addPerson_19 rfl rfl rfl (vi_in g2) (by rw [ey3]; rfl) ?_
    refine wa_aload_n C 0 21 dX10_addPerson_20 rfl rfl ?_
    refine wa_get C 24 0 0 4 dX10_addPerson_21 rfl iX10 q70 rfl (Nat.le_of_ble_eq_true rfl) rfl rfl rfl ?_
    refine wa_aload_n C 0 25 dX10_addPerson_24 rfl rfl ?_
    refine wa_get C 28 0 0 0 dX10_addPerson_25 rfl iX10 q48 rfl (Nat.le_of_ble_eq_true rfl) rfl rfl rfl ?_
    refine wa_iconst (v := (-1)) C 29 dX10_addPerson_28 rfl rfl ?_
    obtain ⟨g4, hf⟩ := grd_ex hf
    obtain ⟨y5, ey5, hf⟩ := bnd_ex hf
    refine wa_iast (ws' := [wV dT a y5]) C 30 0 2 dX10_addPerson_29 rfl rfl rfl (vi_in g4) (by rw [ey5]; rfl) ?_
    refine wa_aload_n C 0 31 dX10_addPerson_30 rfl rfl ?_
    refine wa_get C 34 0 0 5 dX10_addPerson_31 rfl iX10 q78 rfl (Nat.le_of_ble_eq_true rfl) rfl rfl rfl ?_
    refine wa_aload_n C 0 35 dX10_addPerson_34 rfl rfl ?_
    refine wa_get C 38 0 0 0 dX10_addPerson_35 rfl iX10 q48 rfl (Nat.le_of_ble_eq_true rfl) rfl rfl rfl ?_
    refine wa_iconst (v := 0) C 39 dX10_addPerson_38 rfl rfl ?_
    obtain ⟨g6, hf⟩ := grd_ex hf
    obtain ⟨y7, ey7, hf⟩ := bnd_ex hf
    refine wa_iast (ws' := [wV dT a y7]) C 40 0 3 dX10_addPerson_39 rfl rfl rfl (vi_in g6) (by rw [ey7]; rfl) ?_
    refine wa_aload_n C 0 41 dX10_addPerson_40 rfl rfl ?_
    refine wa_get C 44 0 0 6 dX10_addPerson_41 rfl iX10 q81 rfl (Nat.le_of_ble_eq_true rfl) rfl rfl rfl ?_
    refine wa_aload_n C 0 45 dX10_addPerson_44 rfl rfl ?_
    refine wa_get C 48 0 0 0 dX10_addPerson_45 rfl iX10 q48 rfl (Nat.le_of_ble_eq_true rfl) rfl rfl rfl ?_
    refine wa_iconst (v := 0) C 49 dX10_addPerson_48 rfl rfl ?_
    obtain ⟨g8, hf⟩ := grd_ex hf
    obtain ⟨y9, ey9, hf⟩ := bnd_ex hf
    refine wa_iast (ws' := [wV dT a y9]) C 50 0 4 dX10_addPerson_49 rfl rfl rfl (vi_in g8) (by rw [ey9]; rfl) ?_
    refine wa_aload_n C 0 51 dX10_addPerson_50 rfl rfl ?_
    refine wa_get C 54 0 0 7 dX10_addPerson_51 rfl iX10 q83 rfl (Nat.le_of_ble_eq_true rfl) rfl rfl rfl ?_
    refine wa_aload_n C 0 55 dX10_addPerson_54 rfl rfl ?_
    refine wa_get C 58 0 0 0 dX10_addPerson_55 rfl iX10 q48 rfl (Nat.le_of_ble_eq_true rfl) rfl rfl rfl ?_
    refine wa_iconst (v := 0) C 59 dX10_addPerson_58 rfl rfl ?_
    obtain ⟨g10, hf⟩ := grd_ex hf
    obtain ⟨y11, ey11, hf⟩ := bnd_ex hf
    refine wa_iast (ws' := [wV dT a y11]) C 60 0 5 dX10_addPerson_59 rfl rfl rfl (vi_in g10) (by rw [ey11]; rfl) ?_
    refine wa_aload_n C 0 61 dX10_addPerson_60 rfl rfl ?_
    refine wa_dup C 62 dX10_addPerson_61 rfl rfl ?_
    refine wa_get C 65 0 0 0 dX10_addPerson_62 rfl iX10 q48 rfl (Nat.le_of_ble_eq_true rfl) rfl rfl rfl ?_
    refine wa_iconst (v := 1) C 66 dX10_addPerson_65 rfl rfl ?_
    refine wa_iadd C 67 dX10_addPerson_66 rfl ?_
    obtain ⟨y12, ey12, hf⟩ := bnd_ex hf
    refine wa_put (ws' := [wV dT a y12]) C 70 0 0 0 tyX10 dX10_addPerson_67 rfl iX10 tyX10_ok nmX10 q48 rfl (Nat.le_of_ble_eq_true rfl) rfl rfl rfl rfl rfl (Nat.le_of_ble_eq_true rfl) (by rw [ey12]; rfl) ?_
    cases hf
    exact wa_vret C dX10_addPerson_70 rfl
  · replace hf := ite_f hf c1
    cases hf
    exact wa_vret C dX10_addPerson_9 rfl
def f_X10_addHouse (v : Ob) : Option (Int32 × Ob) := bnd (if (12 : Int32) < (v.1 1) then (12 : Int32) else (v.1 1)) (fun x1 => grd (vi x1 13) (bnd (v.1, uA v.2 6 (x1).toNatClampNeg (0 : Int32)) (fun y3 => grd (vi x1 13) (bnd (y3.1, uA y3.2 7 (x1).toNatClampNeg (y3.1 2)) (fun y5 => bnd (upd y5.1 1 (x1 + (1 : Int32)), y5.2) (fun y6 => some (x1, y6)))))))
set_option maxRecDepth 20000 in
theorem c_X10_addHouse {l : Launch} {D : va_G} {dT : Nat → ClassId} {a : Nat → Nat} {v : Ob} {res : Int32 × Ob} (hf : f_X10_addHouse v = some res) : CTi l yX10_addHouse cX10_addHouse 2 (some .int) ({ frames := 3, cells := 0, slots := 0, locals := 60 } : Room) D dT [.ref (a 0)] ([wV dT a v]) ([wV dT a res.2]) res.1 := by
  refine CTi.of (by decide) (Nat.le_of_ble_eq_true rfl) rfl ?_
  intro p e s m args below meth c A C
  unfold f_X10_addHouse at hf
  refine wa_aload_n C 0 1 dX10_addHouse_0 rfl rfl ?_
  refine wa_get C 4 0 0 1 dX10_addHouse_1 rfl iX10 q56 rfl (Nat.le_of_ble_eq_true rfl) rfl rfl rfl ?_
  refine wa_bipush (v := 12) C 6 dX10_addHouse_4 rfl rfl ?_
  refine wa_mmin C 9 dX10_addHouse_6 rfl q502 q503 q18 q504 (Nat.le_of_ble_eq_true rfl) (Nat.le_of_ble_eq_true rfl) ⟨Nat.zero_le _, Nat.zero_le _⟩ ?_
  obtain ⟨x1, ex1, hf⟩ := bnd_ex hf
  refine wa_topi ex1 ?_
  refine wa_istore_n (lv' := [(0, .ref (a 0)), (1, .int x1)]) C [1, 0] 10 dX10_addHouse_9 rfl (Nat.le_of_ble_eq_true rfl) rfl ?_
  refine wa_aload_n C 0 11 dX10_addHouse_10 rfl rfl ?_
  refine wa_get C 14 0 0 8 dX10_addHouse_11 rfl iX10 q87 rfl (Nat.le_of_ble_eq_true rfl) rfl rfl rfl ?_
  refine wa_iload_n C 1 15 dX10_addHouse_14 rfl rfl ?_
  refine wa_iconst (v := 0) C 16 dX10_addHouse_15 rfl rfl ?_
  obtain ⟨g2, hf⟩ := grd_ex hf
  obtain ⟨y3, ey3, hf⟩ := bnd_ex hf
  refine wa_iast (ws' := [wV dT a y3]) C 17 0 6 dX10_addHouse_16 rfl rfl rfl (vi_in g2) (by rw [ey3]; rfl) ?_
  refine wa_aload_n C 0 18 dX10_addHouse_17 rfl rfl ?_
  refine wa_get C 21 0 0 9 dX10_addHouse_18 rfl iX10 q93 rfl (Nat.le_of_ble_eq_true rfl) rfl rfl rfl ?_
  refine wa_iload_n C 1 22 dX10_addHouse_21 rfl rfl ?_
  refine wa_aload_n C 0 23 dX10_addHouse_22 rfl rfl ?_
  refine wa_get C 26 0 0 2 dX10_addHouse_23 rfl iX10 q61 rfl (Nat.le_of_ble_eq_true rfl) rfl rfl rfl ?_
  obtain ⟨g4, hf⟩ := grd_ex hf
  obtain ⟨y5, ey5, hf⟩ := bnd_ex hf
  refine wa_iast (ws' := [wV dT a y5]) C 27 0 7 dX10_addHouse_26 rfl rfl rfl (vi_in g4) (by rw [ey5]; rfl) ?_
  refine wa_aload_n C 0 28 dX10_addHouse_27 rfl rfl ?_
  refine wa_iload_n C 1 29 dX10_addHouse_28 rfl rfl ?_
  refine wa_iconst (v := 1) C 30 dX10_addHouse_29 rfl rfl ?_
  refine wa_iadd C 31 dX10_addHouse_30 rfl ?_
  obtain ⟨y6, ey6, hf⟩ := bnd_ex hf
  refine wa_put (ws' := [wV dT a y6]) C 34 0 0 1 tyX10 dX10_addHouse_31 rfl iX10 tyX10_ok nmX10 q56 rfl (Nat.le_of_ble_eq_true rfl) rfl rfl rfl rfl rfl (Nat.le_of_ble_eq_true rfl) (by rw [ey6]; rfl) ?_
  refine wa_iload_n C 1 35 dX10_addHouse_34 rfl rfl ?_
  cases hf
  exact wa_iret C dX10_addHouse_35 rfl rfl
def f_X10_enter (v : Ob) (p0 : Int32) (p1 : Int32) : Option (Ob) := grd (vi p0 12) (bnd (v.1, uA v.2 2 (p0).toNatClampNeg p1) (fun y2 => grd (vi p1 13) (grd (vi p0 12) (bnd (y2.1, uA y2.2 3 (p0).toNatClampNeg (y2.2 6 (p1).toNatClampNeg)) (fun y5 => grd (vi p0 12) (bnd (y5.1, uA y5.2 4 (p0).toNatClampNeg (y5.1 2)) (fun y7 => grd (vi p1 13) (grd (vi p1 13) (bnd (y7.1, uA y7.2 6 (p1).toNatClampNeg ((y7.2 6 (p1).toNatClampNeg) + (1 : Int32))) (fun y10 => some (y10)))))))))))
set_option maxRecDepth 20000 in
theorem c_X10_enter {l : Launch} {D : va_G} {dT : Nat → ClassId} {a : Nat → Nat} {v : Ob} {p0 : Int32} {p1 : Int32} {res : Ob} (hf : f_X10_enter v p0 p1 = some res) : CTv l yX10_enter cX10_enter 3 none ({ frames := 0, cells := 0, slots := 0, locals := 0 } : Room) D dT [.ref (a 0), .int p0, .int p1] ([wV dT a v]) ([wV dT a res]) := by
  refine CTv.of (by decide) (Nat.le_of_ble_eq_true rfl) rfl ?_
  intro p e s m args below meth c A C
  unfold f_X10_enter at hf
  refine wa_aload_n C 0 1 dX10_enter_0 rfl rfl ?_
  refine wa_get C 4 0 0 4 dX10_enter_1 rfl iX10 q70 rfl (Nat.le_of_ble_eq_true rfl) rfl rfl rfl ?_
  refine wa_iload_n C 1 5 dX10_enter_4 rfl rfl ?_
  refine wa_iload_n C 2 6 dX10_enter_5 rfl rfl ?_
  obtain ⟨g1, hf⟩ := grd_ex hf
  obtain ⟨y2, ey2, hf⟩ := bnd_ex hf
  refine wa_iast (ws' := [wV dT a y2]) C 7 0 2 dX10_enter_6 rfl rfl rfl (vi_in g1) (by rw [ey2]; rfl) ?_
  refine wa_aload_n C 0 8 dX10_enter_7 rfl rfl ?_
  refine wa_get C 11 0 0 5 dX10_enter_8 rfl iX10 q78 rfl (Nat.le_of_ble_eq_true rfl) rfl rfl rfl ?_
  refine wa_iload_n C 1 12 dX10_enter_11 rfl rfl ?_
  refine wa_aload_n C 0 13 dX10_enter_12 rfl rfl ?_
  refine wa_get C 16 0 0 8 dX10_enter_13 rfl iX10 q87 rfl (Nat.le_of_ble_eq_true rfl) rfl rfl rfl ?_
  refine wa_iload_n C 2 17 dX10_enter_16 rfl rfl ?_
  obtain ⟨g3, hf⟩ := grd_ex hf
  refine wa_iald C 18 0 6 dX10_enter_17 rfl rfl rfl (vi_in g3) ?_
  obtain ⟨g4, hf⟩ := grd_ex hf
  obtain ⟨y5, ey5, hf⟩ := bnd_ex hf
  refine wa_iast (ws' := [wV dT a y5]) C 19 0 3 dX10_enter_18 rfl rfl rfl (vi_in g4) (by rw [ey5]; rfl) ?_
  refine wa_aload_n C 0 20 dX10_enter_19 rfl rfl ?_
  refine wa_get C 23 0 0 6 dX10_enter_20 rfl iX10 q81 rfl (Nat.le_of_ble_eq_true rfl) rfl rfl rfl ?_
  refine wa_iload_n C 1 24 dX10_enter_23 rfl rfl ?_
  refine wa_aload_n C 0 25 dX10_enter_24 rfl rfl ?_
  refine wa_get C 28 0 0 2 dX10_enter_25 rfl iX10 q61 rfl (Nat.le_of_ble_eq_true rfl) rfl rfl rfl ?_
  obtain ⟨g6, hf⟩ := grd_ex hf
  obtain ⟨y7, ey7, hf⟩ := bnd_ex hf
  refine wa_iast (ws' := [wV dT a y7]) C 29 0 4 dX10_enter_28 rfl rfl rfl (vi_in g6) (by rw [ey7]; rfl) ?_
  refine wa_aload_n C 0 30 dX10_enter_29 rfl rfl ?_
  refine wa_get C 33 0 0 8 dX10_enter_30 rfl iX10 q87 rfl (Nat.le_of_ble_eq_true rfl) rfl rfl rfl ?_
  refine wa_iload_n C 2 34 dX10_enter_33 rfl rfl ?_
  refine wa_dup2 C 35 dX10_enter_34 rfl rfl rfl ?_
  obtain ⟨g8, hf⟩ := grd_ex hf
  refine wa_iald C 36 0 6 dX10_enter_35 rfl rfl rfl (vi_in g8) ?_
  refine wa_iconst (v := 1) C 37 dX10_enter_36 rfl rfl ?_
  refine wa_iadd C 38 dX10_enter_37 rfl ?_
  obtain ⟨g9, hf⟩ := grd_ex hf
  obtain ⟨y10, ey10, hf⟩ := bnd_ex hf
  refine wa_iast (ws' := [wV dT a y10]) C 39 0 6 dX10_enter_38 rfl rfl rfl (vi_in g9) (by rw [ey10]; rfl) ?_
  cases hf
  exact wa_vret C dX10_enter_39 rfl
def f_X10_leave_L9 (l1 : Int32) (l2 : Int32) : Nat → Int32 → Ob → Option (Ob)
  | 0, _, _ => none
  | n + 1, l3, z0 => (if (z0.1 0) ≤ l3 then grd (vi l2 13) (grd (vi l2 13) (bnd (z0.1, uA z0.2 6 (l2).toNatClampNeg ((z0.2 6 (l2).toNatClampNeg) - (1 : Int32))) (fun y6 => some (y6)))) else grd (vi l3 12) ((if (z0.2 2 (l3).toNatClampNeg) = l2 then grd (vi l3 12) (grd (vi l1 12) ((if (z0.2 3 (l3).toNatClampNeg) ≤ (z0.2 3 (l1).toNatClampNeg) then bnd (l3 + 1) (fun x13 => f_X10_leave_L9 l1 l2 n x13 z0) else grd (vi l3 12) (grd (vi l3 12) (bnd (z0.1, uA z0.2 3 (l3).toNatClampNeg ((z0.2 3 (l3).toNatClampNeg) - (1 : Int32))) (fun y16 => bnd (l3 + 1) (fun x17 => f_X10_leave_L9 l1 l2 n x17 y16))))))) else bnd (l3 + 1) (fun x9 => f_X10_leave_L9 l1 l2 n x9 z0))))
def f_X10_leave (v : Ob) (p0 : Int32) : Option (Ob) := grd (vi p0 12) (bnd (v.2 2 (p0).toNatClampNeg) (fun x2 => f_X10_leave_L9 p0 x2 FUEL (0 : Int32) v))
set_option maxRecDepth 20000 in
theorem w_X10_leave_L9 {p : Program} {l : Launch} {e : Env} {s : State} {m : MethodId} {args : Array Value} {below : List Frame} {meth : Method} {c : Code} {D : va_G} {A : Nat → Prop} {dT : Nat → ClassId} {a : Nat → Nat} {res : Ob} {l1 : Int32} {l2 : Int32} (C : Cx p s m args meth c cX10_leave 4 RX10 none D A dT) : ∀ (n : Nat) (l3 : Int32) (z0 : Ob), f_X10_leave_L9 l1 l2 n l3 z0 = some res → WA p l e ({ frames := 0, cells := 0, slots := 0, locals := 0 } : Room) s m args below meth c (MQ below (QV D dT A ([wV dT a res])) args s 0 0 A) D A 0 0 4 9 ([wV dT a z0]) [(0, .ref (a 0)), (1, .int l1), (2, .int l2), (3, .int l3)] [] := by
  intro n
  induction n with
  | zero => intro l3 z0 hf; cases hf
  | succ n ih =>
    intro l3 z0 hf
    unfold f_X10_leave_L9 at hf
    refine wa_iload_n C 3 10 dX10_leave_9 rfl rfl ?_
    refine wa_aload_n C 0 11 dX10_leave_10 rfl rfl ?_
    refine wa_get C 14 0 0 0 dX10_leave_11 rfl iX10 q48 rfl (Nat.le_of_ble_eq_true rfl) rfl rfl rfl ?_
    refine wa_icmp_ge C 58 17 dX10_leave_14 rfl rfl (fun c3 => ?_) (fun c3 => ?_)
    · replace hf := ite_t hf c3
      refine wa_aload_n C 0 59 dX10_leave_58 rfl rfl ?_
      refine wa_get C 62 0 0 8 dX10_leave_59 rfl iX10 q87 rfl (Nat.le_of_ble_eq_true rfl) rfl rfl rfl ?_
      refine wa_iload_n C 2 63 dX10_leave_62 rfl rfl ?_
      refine wa_dup2 C 64 dX10_leave_63 rfl rfl rfl ?_
      obtain ⟨g4, hf⟩ := grd_ex hf
      refine wa_iald C 65 0 6 dX10_leave_64 rfl rfl rfl (vi_in g4) ?_
      refine wa_iconst (v := 1) C 66 dX10_leave_65 rfl rfl ?_
      refine wa_isub C 67 dX10_leave_66 rfl ?_
      obtain ⟨g5, hf⟩ := grd_ex hf
      obtain ⟨y6, ey6, hf⟩ := bnd_ex hf
      refine wa_iast (ws' := [wV dT a y6]) C 68 0 6 dX10_leave_67 rfl rfl rfl (vi_in g5) (by rw [ey6]; rfl) ?_
      cases hf
      exact wa_vret C dX10_leave_68 rfl
    · replace hf := ite_f hf c3
      refine wa_aload_n C 0 18 dX10_leave_17 rfl rfl ?_
      refine wa_get C 21 0 0 4 dX10_leave_18 rfl iX10 q70 rfl (Nat.le_of_ble_eq_true rfl) rfl rfl rfl ?_
      refine wa_iload_n C 3 22 dX10_leave_21 rfl rfl ?_
      obtain ⟨g7, hf⟩ := grd_ex hf
      refine wa_iald C 23 0 2 dX10_leave_22 rfl rfl rfl (vi_in g7) ?_
      refine wa_iload_n C 2 24 dX10_leave_23 rfl rfl ?_
      refine wa_icmp_ne C 52 27 dX10_leave_24 rfl rfl (fun c8 => ?_) (fun c8 => ?_)
      · replace hf := ite_f hf c8
        obtain ⟨x9, ex9, hf⟩ := bnd_ex hf
        refine wa_iinc (v := x9) (lv' := [(0, .ref (a 0)), (1, .int l1), (2, .int l2), (3, .int x9)]) C 3 [1, 2, 3, 0] 55 dX10_leave_52 rfl rfl (by rw [ex9]; rfl) (Nat.le_of_ble_eq_true rfl) rfl ?_
        refine wa_goto C 9 dX10_leave_55 rfl ?_
        exact ih x9 z0 hf
      · replace hf := ite_t hf c8
        refine wa_aload_n C 0 28 dX10_leave_27 rfl rfl ?_
        refine wa_get C 31 0 0 5 dX10_leave_28 rfl iX10 q78 rfl (Nat.le_of_ble_eq_true rfl) rfl rfl rfl ?_
        refine wa_iload_n C 3 32 dX10_leave_31 rfl rfl ?_
        obtain ⟨g10, hf⟩ := grd_ex hf
        refine wa_iald C 33 0 3 dX10_leave_32 rfl rfl rfl (vi_in g10) ?_
        refine wa_aload_n C 0 34 dX10_leave_33 rfl rfl ?_
        refine wa_get C 37 0 0 5 dX10_leave_34 rfl iX10 q78 rfl (Nat.le_of_ble_eq_true rfl) rfl rfl rfl ?_
        refine wa_iload_n C 1 38 dX10_leave_37 rfl rfl ?_
        obtain ⟨g11, hf⟩ := grd_ex hf
        refine wa_iald C 39 0 3 dX10_leave_38 rfl rfl rfl (vi_in g11) ?_
        refine wa_icmp_le C 52 42 dX10_leave_39 rfl rfl (fun c12 => ?_) (fun c12 => ?_)
        · replace hf := ite_t hf c12
          obtain ⟨x13, ex13, hf⟩ := bnd_ex hf
          refine wa_iinc (v := x13) (lv' := [(0, .ref (a 0)), (1, .int l1), (2, .int l2), (3, .int x13)]) C 3 [1, 2, 3, 0] 55 dX10_leave_52 rfl rfl (by rw [ex13]; rfl) (Nat.le_of_ble_eq_true rfl) rfl ?_
          refine wa_goto C 9 dX10_leave_55 rfl ?_
          exact ih x13 z0 hf
        · replace hf := ite_f hf c12
          refine wa_aload_n C 0 43 dX10_leave_42 rfl rfl ?_
          refine wa_get C 46 0 0 5 dX10_leave_43 rfl iX10 q78 rfl (Nat.le_of_ble_eq_true rfl) rfl rfl rfl ?_
          refine wa_iload_n C 3 47 dX10_leave_46 rfl rfl ?_
          refine wa_dup2 C 48 dX10_leave_47 rfl rfl rfl ?_
          obtain ⟨g14, hf⟩ := grd_ex hf
          refine wa_iald C 49 0 3 dX10_leave_48 rfl rfl rfl (vi_in g14) ?_
          refine wa_iconst (v := 1) C 50 dX10_leave_49 rfl rfl ?_
          refine wa_isub C 51 dX10_leave_50 rfl ?_
          obtain ⟨g15, hf⟩ := grd_ex hf
          obtain ⟨y16, ey16, hf⟩ := bnd_ex hf
          refine wa_iast (ws' := [wV dT a y16]) C 52 0 3 dX10_leave_51 rfl rfl rfl (vi_in g15) (by rw [ey16]; rfl) ?_
          obtain ⟨x17, ex17, hf⟩ := bnd_ex hf
          refine wa_iinc (v := x17) (lv' := [(0, .ref (a 0)), (1, .int l1), (2, .int l2), (3, .int x17)]) C 3 [1, 2, 3, 0] 55 dX10_leave_52 rfl rfl (by rw [ex17]; rfl) (Nat.le_of_ble_eq_true rfl) rfl ?_
          refine wa_goto C 9 dX10_leave_55 rfl ?_
          exact ih x17 y16 hf
set_option maxRecDepth 20000 in
theorem c_X10_leave {l : Launch} {D : va_G} {dT : Nat → ClassId} {a : Nat → Nat} {v : Ob} {p0 : Int32} {res : Ob} (hf : f_X10_leave v p0 = some res) : CTv l yX10_leave cX10_leave 4 none ({ frames := 0, cells := 0, slots := 0, locals := 0 } : Room) D dT [.ref (a 0), .int p0] ([wV dT a v]) ([wV dT a res]) := by
  refine CTv.of (by decide) (Nat.le_of_ble_eq_true rfl) rfl ?_
  intro p e s m args below meth c A C
  unfold f_X10_leave at hf
  refine wa_aload_n C 0 1 dX10_leave_0 rfl rfl ?_
  refine wa_get C 4 0 0 4 dX10_leave_1 rfl iX10 q70 rfl (Nat.le_of_ble_eq_true rfl) rfl rfl rfl ?_
  refine wa_iload_n C 1 5 dX10_leave_4 rfl rfl ?_
  obtain ⟨g1, hf⟩ := grd_ex hf
  refine wa_iald C 6 0 2 dX10_leave_5 rfl rfl rfl (vi_in g1) ?_
  obtain ⟨x2, ex2, hf⟩ := bnd_ex hf
  refine wa_topi ex2 ?_
  refine wa_istore_n (lv' := [(0, .ref (a 0)), (1, .int p0), (2, .int x2)]) C [1, 2, 0] 7 dX10_leave_6 rfl (Nat.le_of_ble_eq_true rfl) rfl ?_
  refine wa_iconst (v := 0) C 8 dX10_leave_7 rfl rfl ?_
  refine wa_istore_n (lv' := [(0, .ref (a 0)), (1, .int p0), (2, .int x2), (3, .int (0 : Int32))]) C [1, 2, 3, 0] 9 dX10_leave_8 rfl (Nat.le_of_ble_eq_true rfl) rfl ?_
  exact w_X10_leave_L9 C FUEL (0 : Int32) v hf
def f_X10_dropEmpty_L82 (l1 : Int64) (l3 : Int32) : Nat → Int32 → Ob → Option (Ob)
  | 0, _, _ => none
  | n + 1, l4, z0 => (if (z0.1 0) ≤ l4 then bnd (upd z0.1 1 l3, z0.2) (fun y5 => some (y5)) else grd (vi l4 12) (grd (vi l4 12) (bnd (z0.1, uA z0.2 2 (l4).toNatClampNeg (((l1.toUInt64 >>> (((4 : Int32) * (z0.2 2 (l4).toNatClampNeg)).toInt64.toUInt64 &&& Int64.toUInt64 63)).toInt64).toInt32 &&& (15 : Int32))) (fun y8 => bnd (l4 + 1) (fun x9 => f_X10_dropEmpty_L82 l1 l3 n x9 y8)))))
def f_X10_dropEmpty_L7 : Nat → Int64 → Int32 → Int32 → Ob → Option (Ob)
  | 0, _, _, _, _ => none
  | n + 1, l1, l3, l4, z0 => (if (z0.1 1) ≤ l4 then (if (z0.1 1) ≤ l3 then some (z0) else f_X10_dropEmpty_L82 l1 l3 FUEL (0 : Int32) z0) else grd (vi l4 13) ((if (z0.2 6 (l4).toNatClampNeg) ≤ 0 then bnd (l4 + 1) (fun x12 => f_X10_dropEmpty_L7 n l1 l3 x12 z0) else bnd (l1 ||| (l3.toInt64 <<< (((4 : Int32) * l4).toInt64 &&& 63))) (fun x13 => grd (vi l4 13) (grd (vi l3 13) (bnd (z0.1, uA z0.2 6 (l3).toNatClampNeg (z0.2 6 (l4).toNatClampNeg)) (fun y16 => grd (vi l4 13) (grd (vi l3 13) (bnd (y16.1, uA y16.2 7 (l3).toNatClampNeg (y16.2 7 (l4).toNatClampNeg)) (fun y19 => bnd (l3 + 1) (fun x20 => bnd (l4 + 1) (fun x21 => f_X10_dropEmpty_L7 n x13 x20 x21 y19))))))))))))
def f_X10_dropEmpty (v : Ob) : Option (Ob) := bnd (0 : Int64) (fun x1 => f_X10_dropEmpty_L7 FUEL x1 (0 : Int32) (0 : Int32) v)
set_option maxRecDepth 20000 in
theorem w_X10_dropEmpty_L82 {p : Program} {l : Launch} {e : Env} {s : State} {m : MethodId} {args : Array Value} {below : List Frame} {meth : Method} {c : Code} {D : va_G} {A : Nat → Prop} {dT : Nat → ClassId} {a : Nat → Nat} {res : Ob} {l1 : Int64} {l3 : Int32} (C : Cx p s m args meth c cX10_dropEmpty 5 RX10 none D A dT) : ∀ (n : Nat) (l4 : Int32) (z0 : Ob), f_X10_dropEmpty_L82 l1 l3 n l4 z0 = some res → WA p l e ({ frames := 0, cells := 0, slots := 0, locals := 0 } : Room) s m args below meth c (MQ below (QV D dT A ([wV dT a res])) args s 0 0 A) D A 0 0 5 82 ([wV dT a z0]) [(0, .ref (a 0)), (1, .long l1), (3, .int l3), (4, .int l4)] [] := by
  intro n
  induction n with
  | zero => intro l4 z0 hf; cases hf
  | succ n ih =>
    intro l4 z0 hf
    unfold f_X10_dropEmpty_L82 at hf
    refine wa_iload C 3 84 dX10_dropEmpty_82 rfl rfl ?_
    refine wa_aload_n C 0 85 dX10_dropEmpty_84 rfl rfl ?_
    refine wa_get C 88 0 0 0 dX10_dropEmpty_85 rfl iX10 q48 rfl (Nat.le_of_ble_eq_true rfl) rfl rfl rfl ?_
    refine wa_icmp_ge C 119 91 dX10_dropEmpty_88 rfl rfl (fun c4 => ?_) (fun c4 => ?_)
    · replace hf := ite_t hf c4
      refine wa_aload_n C 0 120 dX10_dropEmpty_119 rfl rfl ?_
      refine wa_iload_n C 2 121 dX10_dropEmpty_120 rfl rfl ?_
      obtain ⟨y5, ey5, hf⟩ := bnd_ex hf
      refine wa_put (ws' := [wV dT a y5]) C 124 0 0 1 tyX10 dX10_dropEmpty_121 rfl iX10 tyX10_ok nmX10 q56 rfl (Nat.le_of_ble_eq_true rfl) rfl rfl rfl rfl rfl (Nat.le_of_ble_eq_true rfl) (by rw [ey5]; rfl) ?_
      cases hf
      exact wa_vret C dX10_dropEmpty_124 rfl
    · replace hf := ite_f hf c4
      refine wa_aload_n C 0 92 dX10_dropEmpty_91 rfl rfl ?_
      refine wa_get C 95 0 0 4 dX10_dropEmpty_92 rfl iX10 q70 rfl (Nat.le_of_ble_eq_true rfl) rfl rfl rfl ?_
      refine wa_iload C 3 97 dX10_dropEmpty_95 rfl rfl ?_
      refine wa_lload_n C 1 98 dX10_dropEmpty_97 rfl rfl ?_
      refine wa_iconst (v := 4) C 99 dX10_dropEmpty_98 rfl rfl ?_
      refine wa_aload_n C 0 100 dX10_dropEmpty_99 rfl rfl ?_
      refine wa_get C 103 0 0 4 dX10_dropEmpty_100 rfl iX10 q70 rfl (Nat.le_of_ble_eq_true rfl) rfl rfl rfl ?_
      refine wa_iload C 3 105 dX10_dropEmpty_103 rfl rfl ?_
      obtain ⟨g6, hf⟩ := grd_ex hf
      refine wa_iald C 106 0 2 dX10_dropEmpty_105 rfl rfl rfl (vi_in g6) ?_
      refine wa_imul C 107 dX10_dropEmpty_106 rfl ?_
      refine wa_lushr C 108 dX10_dropEmpty_107 rfl ?_
      refine wa_l2i C 109 dX10_dropEmpty_108 rfl ?_
      refine wa_bipush (v := 15) C 111 dX10_dropEmpty_109 rfl rfl ?_
      refine wa_iand C 112 dX10_dropEmpty_111 rfl ?_
      obtain ⟨g7, hf⟩ := grd_ex hf
      obtain ⟨y8, ey8, hf⟩ := bnd_ex hf
      refine wa_iast (ws' := [wV dT a y8]) C 113 0 2 dX10_dropEmpty_112 rfl rfl rfl (vi_in g7) (by rw [ey8]; rfl) ?_
      obtain ⟨x9, ex9, hf⟩ := bnd_ex hf
      refine wa_iinc (v := x9) (lv' := [(0, .ref (a 0)), (1, .long l1), (3, .int l3), (4, .int x9)]) C 3 [1, 2, 3, 0] 116 dX10_dropEmpty_113 rfl rfl (by rw [ex9]; rfl) (Nat.le_of_ble_eq_true rfl) rfl ?_
      refine wa_goto C 82 dX10_dropEmpty_116 rfl ?_
      exact ih x9 y8 hf
set_option maxRecDepth 20000 in
theorem w_X10_dropEmpty_L7 {p : Program} {l : Launch} {e : Env} {s : State} {m : MethodId} {args : Array Value} {below : List Frame} {meth : Method} {c : Code} {D : va_G} {A : Nat → Prop} {dT : Nat → ClassId} {a : Nat → Nat} {res : Ob} (C : Cx p s m args meth c cX10_dropEmpty 5 RX10 none D A dT) : ∀ (n : Nat) (l1 : Int64) (l3 : Int32) (l4 : Int32) (z0 : Ob), f_X10_dropEmpty_L7 n l1 l3 l4 z0 = some res → WA p l e ({ frames := 0, cells := 0, slots := 0, locals := 0 } : Room) s m args below meth c (MQ below (QV D dT A ([wV dT a res])) args s 0 0 A) D A 0 0 5 7 ([wV dT a z0]) [(0, .ref (a 0)), (1, .long l1), (3, .int l3), (4, .int l4)] [] := by
  intro n
  induction n with
  | zero => intro l1 l3 l4 z0 hf; cases hf
  | succ n ih =>
    intro l1 l3 l4 z0 hf
    unfold f_X10_dropEmpty_L7 at hf
    refine wa_iload C 3 9 dX10_dropEmpty_7 rfl rfl ?_
    refine wa_aload_n C 0 10 dX10_dropEmpty_9 rfl rfl ?_
    refine wa_get C 13 0 0 1 dX10_dropEmpty_10 rfl iX10 q56 rfl (Nat.le_of_ble_eq_true rfl) rfl rfl rfl ?_
    refine wa_icmp_ge C 71 16 dX10_dropEmpty_13 rfl rfl (fun c2 => ?_) (fun c2 => ?_)
    · replace hf := ite_t hf c2
      refine wa_iload_n C 2 72 dX10_dropEmpty_71 rfl rfl ?_
      refine wa_aload_n C 0 73 dX10_dropEmpty_72 rfl rfl ?_
      refine wa_get C 76 0 0 1 dX10_dropEmpty_73 rfl iX10 q56 rfl (Nat.le_of_ble_eq_true rfl) rfl rfl rfl ?_
      refine wa_icmp_ge C 124 79 dX10_dropEmpty_76 rfl rfl (fun c3 => ?_) (fun c3 => ?_)
      · replace hf := ite_t hf c3
        cases hf
        exact wa_vret C dX10_dropEmpty_124 rfl
      · replace hf := ite_f hf c3
        refine wa_iconst (v := 0) C 80 dX10_dropEmpty_79 rfl rfl ?_
        refine wa_istore (lv' := [(0, .ref (a 0)), (1, .long l1), (3, .int l3), (4, .int (0 : Int32))]) C [1, 2, 3, 0] 82 dX10_dropEmpty_80 rfl (Nat.le_of_ble_eq_true rfl) rfl ?_
        exact w_X10_dropEmpty_L82 C FUEL (0 : Int32) z0 hf
    · replace hf := ite_f hf c2
      refine wa_aload_n C 0 17 dX10_dropEmpty_16 rfl rfl ?_
      refine wa_get C 20 0 0 8 dX10_dropEmpty_17 rfl iX10 q87 rfl (Nat.le_of_ble_eq_true rfl) rfl rfl rfl ?_
      refine wa_iload C 3 22 dX10_dropEmpty_20 rfl rfl ?_
      obtain ⟨g10, hf⟩ := grd_ex hf
      refine wa_iald C 23 0 6 dX10_dropEmpty_22 rfl rfl rfl (vi_in g10) ?_
      refine wa_if_le C 65 26 dX10_dropEmpty_23 rfl rfl (fun c11 => ?_) (fun c11 => ?_)
      · replace hf := ite_t hf c11
        obtain ⟨x12, ex12, hf⟩ := bnd_ex hf
        refine wa_iinc (v := x12) (lv' := [(0, .ref (a 0)), (1, .long l1), (3, .int l3), (4, .int x12)]) C 3 [1, 2, 3, 0] 68 dX10_dropEmpty_65 rfl rfl (by rw [ex12]; rfl) (Nat.le_of_ble_eq_true rfl) rfl ?_
        refine wa_goto C 7 dX10_dropEmpty_68 rfl ?_
        exact ih l1 l3 x12 z0 hf
      · replace hf := ite_f hf c11
        refine wa_lload_n C 1 27 dX10_dropEmpty_26 rfl rfl ?_
        refine wa_iload_n C 2 28 dX10_dropEmpty_27 rfl rfl ?_
        refine wa_i2l C 29 dX10_dropEmpty_28 rfl ?_
        refine wa_iconst (v := 4) C 30 dX10_dropEmpty_29 rfl rfl ?_
        refine wa_iload C 3 32 dX10_dropEmpty_30 rfl rfl ?_
        refine wa_imul C 33 dX10_dropEmpty_32 rfl ?_
        refine wa_lshl C 34 dX10_dropEmpty_33 rfl ?_
        refine wa_lor C 35 dX10_dropEmpty_34 rfl ?_
        obtain ⟨x13, ex13, hf⟩ := bnd_ex hf
        refine wa_topl ex13 ?_
        refine wa_lstore_n (lv' := [(0, .ref (a 0)), (1, .long x13), (3, .int l3), (4, .int l4)]) C [1, 0, 2, 3] 36 dX10_dropEmpty_35 rfl (Nat.le_of_ble_eq_true rfl) rfl ?_
        refine wa_aload_n C 0 37 dX10_dropEmpty_36 rfl rfl ?_
        refine wa_get C 40 0 0 8 dX10_dropEmpty_37 rfl iX10 q87 rfl (Nat.le_of_ble_eq_true rfl) rfl rfl rfl ?_
        refine wa_iload_n C 2 41 dX10_dropEmpty_40 rfl rfl ?_
        refine wa_aload_n C 0 42 dX10_dropEmpty_41 rfl rfl ?_
        refine wa_get C 45 0 0 8 dX10_dropEmpty_42 rfl iX10 q87 rfl (Nat.le_of_ble_eq_true rfl) rfl rfl rfl ?_
        refine wa_iload C 3 47 dX10_dropEmpty_45 rfl rfl ?_
        obtain ⟨g14, hf⟩ := grd_ex hf
        refine wa_iald C 48 0 6 dX10_dropEmpty_47 rfl rfl rfl (vi_in g14) ?_
        obtain ⟨g15, hf⟩ := grd_ex hf
        obtain ⟨y16, ey16, hf⟩ := bnd_ex hf
        refine wa_iast (ws' := [wV dT a y16]) C 49 0 6 dX10_dropEmpty_48 rfl rfl rfl (vi_in g15) (by rw [ey16]; rfl) ?_
        refine wa_aload_n C 0 50 dX10_dropEmpty_49 rfl rfl ?_
        refine wa_get C 53 0 0 9 dX10_dropEmpty_50 rfl iX10 q93 rfl (Nat.le_of_ble_eq_true rfl) rfl rfl rfl ?_
        refine wa_iload_n C 2 54 dX10_dropEmpty_53 rfl rfl ?_
        refine wa_aload_n C 0 55 dX10_dropEmpty_54 rfl rfl ?_
        refine wa_get C 58 0 0 9 dX10_dropEmpty_55 rfl iX10 q93 rfl (Nat.le_of_ble_eq_true rfl) rfl rfl rfl ?_
        refine wa_iload C 3 60 dX10_dropEmpty_58 rfl rfl ?_
        obtain ⟨g17, hf⟩ := grd_ex hf
        refine wa_iald C 61 0 7 dX10_dropEmpty_60 rfl rfl rfl (vi_in g17) ?_
        obtain ⟨g18, hf⟩ := grd_ex hf
        obtain ⟨y19, ey19, hf⟩ := bnd_ex hf
        refine wa_iast (ws' := [wV dT a y19]) C 62 0 7 dX10_dropEmpty_61 rfl rfl rfl (vi_in g18) (by rw [ey19]; rfl) ?_
        obtain ⟨x20, ex20, hf⟩ := bnd_ex hf
        refine wa_iinc (v := x20) (lv' := [(0, .ref (a 0)), (1, .long x13), (3, .int x20), (4, .int l4)]) C 2 [1, 2, 0, 3] 65 dX10_dropEmpty_62 rfl rfl (by rw [ex20]; rfl) (Nat.le_of_ble_eq_true rfl) rfl ?_
        obtain ⟨x21, ex21, hf⟩ := bnd_ex hf
        refine wa_iinc (v := x21) (lv' := [(0, .ref (a 0)), (1, .long x13), (3, .int x20), (4, .int x21)]) C 3 [1, 2, 3, 0] 68 dX10_dropEmpty_65 rfl rfl (by rw [ex21]; rfl) (Nat.le_of_ble_eq_true rfl) rfl ?_
        refine wa_goto C 7 dX10_dropEmpty_68 rfl ?_
        exact ih x13 x20 x21 y19 hf
set_option maxRecDepth 20000 in
theorem c_X10_dropEmpty {l : Launch} {D : va_G} {dT : Nat → ClassId} {a : Nat → Nat} {v : Ob} {res : Ob} (hf : f_X10_dropEmpty v = some res) : CTv l yX10_dropEmpty cX10_dropEmpty 5 none ({ frames := 0, cells := 0, slots := 0, locals := 0 } : Room) D dT [.ref (a 0)] ([wV dT a v]) ([wV dT a res]) := by
  refine CTv.of (by decide) (Nat.le_of_ble_eq_true rfl) rfl ?_
  intro p e s m args below meth c A C
  unfold f_X10_dropEmpty at hf
  refine wa_lconst (v := 0) C 1 dX10_dropEmpty_0 rfl rfl ?_
  obtain ⟨x1, ex1, hf⟩ := bnd_ex hf
  refine wa_topl ex1 ?_
  refine wa_lstore_n (lv' := [(0, .ref (a 0)), (1, .long x1)]) C [1, 0] 2 dX10_dropEmpty_1 rfl (Nat.le_of_ble_eq_true rfl) rfl ?_
  refine wa_iconst (v := 0) C 3 dX10_dropEmpty_2 rfl rfl ?_
  refine wa_istore_n (lv' := [(0, .ref (a 0)), (1, .long x1), (3, .int (0 : Int32))]) C [1, 2, 0] 4 dX10_dropEmpty_3 rfl (Nat.le_of_ble_eq_true rfl) rfl ?_
  refine wa_iconst (v := 0) C 5 dX10_dropEmpty_4 rfl rfl ?_
  refine wa_istore (lv' := [(0, .ref (a 0)), (1, .long x1), (3, .int (0 : Int32)), (4, .int (0 : Int32))]) C [1, 2, 3, 0] 7 dX10_dropEmpty_5 rfl (Nat.le_of_ble_eq_true rfl) rfl ?_
  exact w_X10_dropEmpty_L7 C FUEL x1 (0 : Int32) (0 : Int32) v hf
theorem kv_X10_55 : KV RX10 55 yX10_leave cX10_leave 4 none 1 := KV.mk q1074 q1076 qs36 q3 q1077 ⟨by decide, by decide, by decide +kernel⟩
theorem kv_X10_59 : KV RX10 59 yX10_enter cX10_enter 3 none 2 := KV.mk q1078 q506 q507 q3 q508 ⟨by decide, by decide, by decide +kernel⟩
theorem kv_X10_63 : KV RX10 63 yX10_dropEmpty cX10_dropEmpty 5 none 0 := KV.mk q585 q510 q511 q3 q512 ⟨by decide, by decide, by decide +kernel⟩
def f_X10_moveTo (v : Ob) (p0 : Int32) (p1 : Int32) : Option (Ob) := (f_X10_leave v p0).bind (fun q1 => (f_X10_enter q1 p0 p1).bind (fun q2 => (f_X10_dropEmpty q2).bind (fun q3 => some (q3))))
set_option maxRecDepth 20000 in
theorem c_X10_moveTo {l : Launch} {D : va_G} {dT : Nat → ClassId} {a : Nat → Nat} {v : Ob} {p0 : Int32} {p1 : Int32} {res : Ob} (hf : f_X10_moveTo v p0 p1 = some res) : CTv l yX10_moveTo cX10_moveTo 3 none ({ frames := 1, cells := 0, slots := 0, locals := 24 } : Room) D dT [.ref (a 0), .int p0, .int p1] ([wV dT a v]) ([wV dT a res]) := by
  refine CTv.of (by decide) (Nat.le_of_ble_eq_true rfl) rfl ?_
  intro p e s m args below meth c A C
  unfold f_X10_moveTo at hf
  refine wa_aload_n C 0 1 dX10_moveTo_0 rfl rfl ?_
  refine wa_iload_n C 1 2 dX10_moveTo_1 rfl rfl ?_
  obtain ⟨q1, hq1, hf⟩ := bind_ex hf
  refine wa_callVAv (b1 := 0) (q1 := 0) (ci := 10) (As := [.int p0]) C 5 dX10_moveTo_2 rfl kv_X10_55 (c_X10_leave hq1) ⟨rfl, rfl⟩ ⟨Nat.le_of_ble_eq_true rfl, Nat.le_of_ble_eq_true rfl⟩ rfl rfl rfl rfl rfl ⟨Nat.zero_le _, Nat.zero_le _⟩ (Nat.le_of_ble_eq_true rfl) ?_
  refine wa_aload_n C 0 6 dX10_moveTo_5 rfl rfl ?_
  refine wa_iload_n C 1 7 dX10_moveTo_6 rfl rfl ?_
  refine wa_iload_n C 2 8 dX10_moveTo_7 rfl rfl ?_
  obtain ⟨q2, hq2, hf⟩ := bind_ex hf
  refine wa_callVAv (b1 := 0) (q1 := 0) (ci := 10) (As := [.int p0, .int p1]) C 11 dX10_moveTo_8 rfl kv_X10_59 (c_X10_enter hq2) ⟨rfl, rfl⟩ ⟨Nat.le_of_ble_eq_true rfl, Nat.le_of_ble_eq_true rfl⟩ rfl rfl rfl rfl rfl ⟨Nat.zero_le _, Nat.zero_le _⟩ (Nat.le_of_ble_eq_true rfl) ?_
  refine wa_aload_n C 0 12 dX10_moveTo_11 rfl rfl ?_
  obtain ⟨q3, hq3, hf⟩ := bind_ex hf
  refine wa_callVAv (b1 := 0) (q1 := 0) (ci := 10) (As := []) C 15 dX10_moveTo_12 rfl kv_X10_63 (c_X10_dropEmpty hq3) ⟨rfl, rfl⟩ ⟨Nat.le_of_ble_eq_true rfl, Nat.le_of_ble_eq_true rfl⟩ rfl rfl rfl rfl rfl ⟨Nat.zero_le _, Nat.zero_le _⟩ (Nat.le_of_ble_eq_true rfl) ?_
  cases hf
  exact wa_vret C dX10_moveTo_15 rfl
theorem kv_X10_66 : KV RX10 66 yX10_addHouse cX10_addHouse 2 (some .int) 0 := KV.mk q1091 q499 q500 q3 q501 ⟨by decide, by decide, by decide +kernel⟩
def f_X10_foundBy (v : Ob) (p0 : Int32) : Option (Ob) := (f_X10_leave v p0).bind (fun q1 => (f_X10_addHouse q1).bind (fun q2 => (f_X10_enter q2.2 p0 q2.1).bind (fun q3 => (f_X10_dropEmpty q3).bind (fun q4 => some (q4)))))
set_option maxRecDepth 20000 in
theorem c_X10_foundBy {l : Launch} {D : va_G} {dT : Nat → ClassId} {a : Nat → Nat} {v : Ob} {p0 : Int32} {res : Ob} (hf : f_X10_foundBy v p0 = some res) : CTv l yX10_foundBy cX10_foundBy 2 none ({ frames := 4, cells := 0, slots := 0, locals := 81 } : Room) D dT [.ref (a 0), .int p0] ([wV dT a v]) ([wV dT a res]) := by
  refine CTv.of (by decide) (Nat.le_of_ble_eq_true rfl) rfl ?_
  intro p e s m args below meth c A C
  unfold f_X10_foundBy at hf
  refine wa_aload_n C 0 1 dX10_foundBy_0 rfl rfl ?_
  refine wa_iload_n C 1 2 dX10_foundBy_1 rfl rfl ?_
  obtain ⟨q1, hq1, hf⟩ := bind_ex hf
  refine wa_callVAv (b1 := 0) (q1 := 0) (ci := 10) (As := [.int p0]) C 5 dX10_foundBy_2 rfl kv_X10_55 (c_X10_leave hq1) ⟨rfl, rfl⟩ ⟨Nat.le_of_ble_eq_true rfl, Nat.le_of_ble_eq_true rfl⟩ rfl rfl rfl rfl rfl ⟨Nat.zero_le _, Nat.zero_le _⟩ (Nat.le_of_ble_eq_true rfl) ?_
  refine wa_aload_n C 0 6 dX10_foundBy_5 rfl rfl ?_
  refine wa_iload_n C 1 7 dX10_foundBy_6 rfl rfl ?_
  refine wa_aload_n C 0 8 dX10_foundBy_7 rfl rfl ?_
  obtain ⟨q2, hq2, hf⟩ := bind_ex hf
  refine wa_callVAi (b1 := 0) (q1 := 0) (ci := 10) (As := []) C 11 dX10_foundBy_8 rfl kv_X10_66 (c_X10_addHouse hq2) ⟨rfl, rfl⟩ ⟨Nat.le_of_ble_eq_true rfl, Nat.le_of_ble_eq_true rfl⟩ rfl rfl rfl rfl rfl ⟨Nat.zero_le _, Nat.zero_le _⟩ (Nat.le_of_ble_eq_true rfl) ?_
  obtain ⟨q3, hq3, hf⟩ := bind_ex hf
  refine wa_callVAv (b1 := 0) (q1 := 0) (ci := 10) (As := [.int p0, .int q2.1]) C 14 dX10_foundBy_11 rfl kv_X10_59 (c_X10_enter hq3) ⟨rfl, rfl⟩ ⟨Nat.le_of_ble_eq_true rfl, Nat.le_of_ble_eq_true rfl⟩ rfl rfl rfl rfl rfl ⟨Nat.zero_le _, Nat.zero_le _⟩ (Nat.le_of_ble_eq_true rfl) ?_
  refine wa_aload_n C 0 15 dX10_foundBy_14 rfl rfl ?_
  obtain ⟨q4, hq4, hf⟩ := bind_ex hf
  refine wa_callVAv (b1 := 0) (q1 := 0) (ci := 10) (As := []) C 18 dX10_foundBy_15 rfl kv_X10_63 (c_X10_dropEmpty hq4) ⟨rfl, rfl⟩ ⟨Nat.le_of_ble_eq_true rfl, Nat.le_of_ble_eq_true rfl⟩ rfl rfl rfl rfl rfl ⟨Nat.zero_le _, Nat.zero_le _⟩ (Nat.le_of_ble_eq_true rfl) ?_
  cases hf
  exact wa_vret C dX10_foundBy_18 rfl
def f_X10_joinTo_L2 (l1 : Int32) (l2 : Int32) : Nat → Int32 → Ob → Option (Ob)
  | 0, _, _ => none
  | n + 1, l3, z0 => (if (z0.1 0) ≤ l3 then grd (vi l2 13) (grd (vi l1 13) (grd (vi l2 13) (bnd (z0.1, uA z0.2 6 (l2).toNatClampNeg ((z0.2 6 (l2).toNatClampNeg) + (z0.2 6 (l1).toNatClampNeg))) (fun y5 => grd (vi l1 13) (bnd (y5.1, uA y5.2 6 (l1).toNatClampNeg (0 : Int32)) (fun y7 => (f_X10_dropEmpty y7).bind (fun q8 => some (q8)))))))) else grd (vi l3 12) ((if (z0.2 2 (l3).toNatClampNeg) = l1 then grd (vi l3 12) (bnd (z0.1, uA z0.2 2 (l3).toNatClampNeg l2) (fun y13 => grd (vi l3 12) (grd (vi l2 13) (grd (vi l3 12) (bnd (y13.1, uA y13.2 3 (l3).toNatClampNeg ((y13.2 3 (l3).toNatClampNeg) + (y13.2 6 (l2).toNatClampNeg))) (fun y17 => grd (vi l3 12) (bnd (y17.1, uA y17.2 4 (l3).toNatClampNeg (y17.1 2)) (fun y19 => bnd (l3 + 1) (fun x20 => f_X10_joinTo_L2 l1 l2 n x20 y19))))))))) else bnd (l3 + 1) (fun x11 => f_X10_joinTo_L2 l1 l2 n x11 z0))))
def f_X10_joinTo (v : Ob) (p0 : Int32) (p1 : Int32) : Option (Ob) := f_X10_joinTo_L2 p0 p1 FUEL (0 : Int32) v
set_option maxRecDepth 20000 in
theorem w_X10_joinTo_L2 {p : Program} {l : Launch} {e : Env} {s : State} {m : MethodId} {args : Array Value} {below : List Frame} {meth : Method} {c : Code} {D : va_G} {A : Nat → Prop} {dT : Nat → ClassId} {a : Nat → Nat} {res : Ob} {l1 : Int32} {l2 : Int32} (C : Cx p s m args meth c cX10_joinTo 4 RX10 none D A dT) : ∀ (n : Nat) (l3 : Int32) (z0 : Ob), f_X10_joinTo_L2 l1 l2 n l3 z0 = some res → WA p l e ({ frames := 1, cells := 0, slots := 0, locals := 24 } : Room) s m args below meth c (MQ below (QV D dT A ([wV dT a res])) args s 0 0 A) D A 0 0 4 2 ([wV dT a z0]) [(0, .ref (a 0)), (1, .int l1), (2, .int l2), (3, .int l3)] [] := by
  intro n
  induction n with
  | zero => intro l3 z0 hf; cases hf
  | succ n ih =>
    intro l3 z0 hf
    unfold f_X10_joinTo_L2 at hf
    refine wa_iload_n C 3 3 dX10_joinTo_2 rfl rfl ?_
    refine wa_aload_n C 0 4 dX10_joinTo_3 rfl rfl ?_
    refine wa_get C 7 0 0 0 dX10_joinTo_4 rfl iX10 q48 rfl (Nat.le_of_ble_eq_true rfl) rfl rfl rfl ?_
    refine wa_icmp_ge C 58 10 dX10_joinTo_7 rfl rfl (fun c1 => ?_) (fun c1 => ?_)
    · replace hf := ite_t hf c1
      refine wa_aload_n C 0 59 dX10_joinTo_58 rfl rfl ?_
      refine wa_get C 62 0 0 8 dX10_joinTo_59 rfl iX10 q87 rfl (Nat.le_of_ble_eq_true rfl) rfl rfl rfl ?_
      refine wa_iload_n C 2 63 dX10_joinTo_62 rfl rfl ?_
      refine wa_dup2 C 64 dX10_joinTo_63 rfl rfl rfl ?_
      obtain ⟨g2, hf⟩ := grd_ex hf
      refine wa_iald C 65 0 6 dX10_joinTo_64 rfl rfl rfl (vi_in g2) ?_
      refine wa_aload_n C 0 66 dX10_joinTo_65 rfl rfl ?_
      refine wa_get C 69 0 0 8 dX10_joinTo_66 rfl iX10 q87 rfl (Nat.le_of_ble_eq_true rfl) rfl rfl rfl ?_
      refine wa_iload_n C 1 70 dX10_joinTo_69 rfl rfl ?_
      obtain ⟨g3, hf⟩ := grd_ex hf
      refine wa_iald C 71 0 6 dX10_joinTo_70 rfl rfl rfl (vi_in g3) ?_
      refine wa_iadd C 72 dX10_joinTo_71 rfl ?_
      obtain ⟨g4, hf⟩ := grd_ex hf
      obtain ⟨y5, ey5, hf⟩ := bnd_ex hf
      refine wa_iast (ws' := [wV dT a y5]) C 73 0 6 dX10_joinTo_72 rfl rfl rfl (vi_in g4) (by rw [ey5]; rfl) ?_
      refine wa_aload_n C 0 74 dX10_joinTo_73 rfl rfl ?_
      refine wa_get C 77 0 0 8 dX10_joinTo_74 rfl iX10 q87 rfl (Nat.le_of_ble_eq_true rfl) rfl rfl rfl ?_
      refine wa_iload_n C 1 78 dX10_joinTo_77 rfl rfl ?_
      refine wa_iconst (v := 0) C 79 dX10_joinTo_78 rfl rfl ?_
      obtain ⟨g6, hf⟩ := grd_ex hf
      obtain ⟨y7, ey7, hf⟩ := bnd_ex hf
      refine wa_iast (ws' := [wV dT a y7]) C 80 0 6 dX10_joinTo_79 rfl rfl rfl (vi_in g6) (by rw [ey7]; rfl) ?_
      refine wa_aload_n C 0 81 dX10_joinTo_80 rfl rfl ?_
      obtain ⟨q8, hq8, hf⟩ := bind_ex hf
      refine wa_callVAv (b1 := 0) (q1 := 0) (ci := 10) (As := []) C 84 dX10_joinTo_81 rfl kv_X10_63 (c_X10_dropEmpty hq8) ⟨rfl, rfl⟩ ⟨Nat.le_of_ble_eq_true rfl, Nat.le_of_ble_eq_true rfl⟩ rfl rfl rfl rfl rfl ⟨Nat.zero_le _, Nat.zero_le _⟩ (Nat.le_of_ble_eq_true rfl) ?_
      cases hf
      exact wa_vret C dX10_joinTo_84 rfl
    · replace hf := ite_f hf c1
      refine wa_aload_n C 0 11 dX10_joinTo_10 rfl rfl ?_
      refine wa_get C 14 0 0 4 dX10_joinTo_11 rfl iX10 q70 rfl (Nat.le_of_ble_eq_true rfl) rfl rfl rfl ?_
      refine wa_iload_n C 3 15 dX10_joinTo_14 rfl rfl ?_
      obtain ⟨g9, hf⟩ := grd_ex hf
      refine wa_iald C 16 0 2 dX10_joinTo_15 rfl rfl rfl (vi_in g9) ?_
      refine wa_iload_n C 1 17 dX10_joinTo_16 rfl rfl ?_
      refine wa_icmp_ne C 52 20 dX10_joinTo_17 rfl rfl (fun c10 => ?_) (fun c10 => ?_)
      · replace hf := ite_f hf c10
        obtain ⟨x11, ex11, hf⟩ := bnd_ex hf
        refine wa_iinc (v := x11) (lv' := [(0, .ref (a 0)), (1, .int l1), (2, .int l2), (3, .int x11)]) C 3 [1, 2, 3, 0] 55 dX10_joinTo_52 rfl rfl (by rw [ex11]; rfl) (Nat.le_of_ble_eq_true rfl) rfl ?_
        refine wa_goto C 2 dX10_joinTo_55 rfl ?_
        exact ih x11 z0 hf
      · replace hf := ite_t hf c10
        refine wa_aload_n C 0 21 dX10_joinTo_20 rfl rfl ?_
        refine wa_get C 24 0 0 4 dX10_joinTo_21 rfl iX10 q70 rfl (Nat.le_of_ble_eq_true rfl) rfl rfl rfl ?_
        refine wa_iload_n C 3 25 dX10_joinTo_24 rfl rfl ?_
        refine wa_iload_n C 2 26 dX10_joinTo_25 rfl rfl ?_
        obtain ⟨g12, hf⟩ := grd_ex hf
        obtain ⟨y13, ey13, hf⟩ := bnd_ex hf
        refine wa_iast (ws' := [wV dT a y13]) C 27 0 2 dX10_joinTo_26 rfl rfl rfl (vi_in g12) (by rw [ey13]; rfl) ?_
        refine wa_aload_n C 0 28 dX10_joinTo_27 rfl rfl ?_
        refine wa_get C 31 0 0 5 dX10_joinTo_28 rfl iX10 q78 rfl (Nat.le_of_ble_eq_true rfl) rfl rfl rfl ?_
        refine wa_iload_n C 3 32 dX10_joinTo_31 rfl rfl ?_
        refine wa_dup2 C 33 dX10_joinTo_32 rfl rfl rfl ?_
        obtain ⟨g14, hf⟩ := grd_ex hf
        refine wa_iald C 34 0 3 dX10_joinTo_33 rfl rfl rfl (vi_in g14) ?_
        refine wa_aload_n C 0 35 dX10_joinTo_34 rfl rfl ?_
        refine wa_get C 38 0 0 8 dX10_joinTo_35 rfl iX10 q87 rfl (Nat.le_of_ble_eq_true rfl) rfl rfl rfl ?_
        refine wa_iload_n C 2 39 dX10_joinTo_38 rfl rfl ?_
        obtain ⟨g15, hf⟩ := grd_ex hf
        refine wa_iald C 40 0 6 dX10_joinTo_39 rfl rfl rfl (vi_in g15) ?_
        refine wa_iadd C 41 dX10_joinTo_40 rfl ?_
        obtain ⟨g16, hf⟩ := grd_ex hf
        obtain ⟨y17, ey17, hf⟩ := bnd_ex hf
        refine wa_iast (ws' := [wV dT a y17]) C 42 0 3 dX10_joinTo_41 rfl rfl rfl (vi_in g16) (by rw [ey17]; rfl) ?_
        refine wa_aload_n C 0 43 dX10_joinTo_42 rfl rfl ?_
        refine wa_get C 46 0 0 6 dX10_joinTo_43 rfl iX10 q81 rfl (Nat.le_of_ble_eq_true rfl) rfl rfl rfl ?_
        refine wa_iload_n C 3 47 dX10_joinTo_46 rfl rfl ?_
        refine wa_aload_n C 0 48 dX10_joinTo_47 rfl rfl ?_
        refine wa_get C 51 0 0 2 dX10_joinTo_48 rfl iX10 q61 rfl (Nat.le_of_ble_eq_true rfl) rfl rfl rfl ?_
        obtain ⟨g18, hf⟩ := grd_ex hf
        obtain ⟨y19, ey19, hf⟩ := bnd_ex hf
        refine wa_iast (ws' := [wV dT a y19]) C 52 0 4 dX10_joinTo_51 rfl rfl rfl (vi_in g18) (by rw [ey19]; rfl) ?_
        obtain ⟨x20, ex20, hf⟩ := bnd_ex hf
        refine wa_iinc (v := x20) (lv' := [(0, .ref (a 0)), (1, .int l1), (2, .int l2), (3, .int x20)]) C 3 [1, 2, 3, 0] 55 dX10_joinTo_52 rfl rfl (by rw [ex20]; rfl) (Nat.le_of_ble_eq_true rfl) rfl ?_
        refine wa_goto C 2 dX10_joinTo_55 rfl ?_
        exact ih x20 y19 hf
set_option maxRecDepth 20000 in
theorem c_X10_joinTo {l : Launch} {D : va_G} {dT : Nat → ClassId} {a : Nat → Nat} {v : Ob} {p0 : Int32} {p1 : Int32} {res : Ob} (hf : f_X10_joinTo v p0 p1 = some res) : CTv l yX10_joinTo cX10_joinTo 4 none ({ frames := 1, cells := 0, slots := 0, locals := 24 } : Room) D dT [.ref (a 0), .int p0, .int p1] ([wV dT a v]) ([wV dT a res]) := by
  refine CTv.of (by decide) (Nat.le_of_ble_eq_true rfl) rfl ?_
  intro p e s m args below meth c A C
  unfold f_X10_joinTo at hf
  refine wa_iconst (v := 0) C 1 dX10_joinTo_0 rfl rfl ?_
  refine wa_istore_n (lv' := [(0, .ref (a 0)), (1, .int p0), (2, .int p1), (3, .int (0 : Int32))]) C [1, 2, 3, 0] 2 dX10_joinTo_1 rfl (Nat.le_of_ble_eq_true rfl) rfl ?_
  exact w_X10_joinTo_L2 C FUEL (0 : Int32) v hf
def f_X10_since (v : Ob) (p0 : Int32) : Option (Int32) := grd (vi p0 12) (some (((v.1 2) - (v.2 4 (p0).toNatClampNeg))))
set_option maxRecDepth 20000 in
theorem c_X10_since {l : Launch} {D : va_G} {dT : Nat → ClassId} {a : Nat → Nat} {v : Ob} {p0 : Int32} {res : Int32} (hf : f_X10_since v p0 = some res) : CTi l yX10_since cX10_since 2 (some .int) ({ frames := 0, cells := 0, slots := 0, locals := 0 } : Room) D dT [.ref (a 0), .int p0] ([wV dT a v]) ([wV dT a v]) res := by
  refine CTi.of (by decide) (Nat.le_of_ble_eq_true rfl) rfl ?_
  intro p e s m args below meth c A C
  unfold f_X10_since at hf
  refine wa_aload_n C 0 1 dX10_since_0 rfl rfl ?_
  refine wa_get C 4 0 0 2 dX10_since_1 rfl iX10 q61 rfl (Nat.le_of_ble_eq_true rfl) rfl rfl rfl ?_
  refine wa_aload_n C 0 5 dX10_since_4 rfl rfl ?_
  refine wa_get C 8 0 0 6 dX10_since_5 rfl iX10 q81 rfl (Nat.le_of_ble_eq_true rfl) rfl rfl rfl ?_
  refine wa_iload_n C 1 9 dX10_since_8 rfl rfl ?_
  obtain ⟨g1, hf⟩ := grd_ex hf
  refine wa_iald C 10 0 4 dX10_since_9 rfl rfl rfl (vi_in g1) ?_
  refine wa_isub C 11 dX10_since_10 rfl ?_
  cases hf
  exact wa_iret C dX10_since_11 rfl rfl
def f_X10_old (v : Ob) (p0 : Int32) : Option (Int32) := grd (vi p0 13) (some (((v.1 2) - (v.2 7 (p0).toNatClampNeg))))
set_option maxRecDepth 20000 in
theorem c_X10_old {l : Launch} {D : va_G} {dT : Nat → ClassId} {a : Nat → Nat} {v : Ob} {p0 : Int32} {res : Int32} (hf : f_X10_old v p0 = some res) : CTi l yX10_old cX10_old 2 (some .int) ({ frames := 0, cells := 0, slots := 0, locals := 0 } : Room) D dT [.ref (a 0), .int p0] ([wV dT a v]) ([wV dT a v]) res := by
  refine CTi.of (by decide) (Nat.le_of_ble_eq_true rfl) rfl ?_
  intro p e s m args below meth c A C
  unfold f_X10_old at hf
  refine wa_aload_n C 0 1 dX10_old_0 rfl rfl ?_
  refine wa_get C 4 0 0 2 dX10_old_1 rfl iX10 q61 rfl (Nat.le_of_ble_eq_true rfl) rfl rfl rfl ?_
  refine wa_aload_n C 0 5 dX10_old_4 rfl rfl ?_
  refine wa_get C 8 0 0 9 dX10_old_5 rfl iX10 q93 rfl (Nat.le_of_ble_eq_true rfl) rfl rfl rfl ?_
  refine wa_iload_n C 1 9 dX10_old_8 rfl rfl ?_
  obtain ⟨g1, hf⟩ := grd_ex hf
  refine wa_iald C 10 0 7 dX10_old_9 rfl rfl rfl (vi_in g1) ?_
  refine wa_isub C 11 dX10_old_10 rfl ?_
  cases hf
  exact wa_iret C dX10_old_11 rfl rfl
def f_X10_inOne (v : Ob) (p0 : Int32) (p1 : Int32) : Option (Int32) := grd (vi p0 12) (grd (vi p1 12) ((if (v.2 2 (p0).toNatClampNeg) = (v.2 2 (p1).toNatClampNeg) then some ((1 : Int32)) else some ((0 : Int32)))))
set_option maxRecDepth 20000 in
theorem c_X10_inOne {l : Launch} {D : va_G} {dT : Nat → ClassId} {a : Nat → Nat} {v : Ob} {p0 : Int32} {p1 : Int32} {res : Int32} (hf : f_X10_inOne v p0 p1 = some res) : CTi l yX10_inOne cX10_inOne 3 (some .boolean) ({ frames := 0, cells := 0, slots := 0, locals := 0 } : Room) D dT [.ref (a 0), .int p0, .int p1] ([wV dT a v]) ([wV dT a v]) res := by
  refine CTi.of (by decide) (Nat.le_of_ble_eq_true rfl) rfl ?_
  intro p e s m args below meth c A C
  unfold f_X10_inOne at hf
  refine wa_aload_n C 0 1 dX10_inOne_0 rfl rfl ?_
  refine wa_get C 4 0 0 4 dX10_inOne_1 rfl iX10 q70 rfl (Nat.le_of_ble_eq_true rfl) rfl rfl rfl ?_
  refine wa_iload_n C 1 5 dX10_inOne_4 rfl rfl ?_
  obtain ⟨g1, hf⟩ := grd_ex hf
  refine wa_iald C 6 0 2 dX10_inOne_5 rfl rfl rfl (vi_in g1) ?_
  refine wa_aload_n C 0 7 dX10_inOne_6 rfl rfl ?_
  refine wa_get C 10 0 0 4 dX10_inOne_7 rfl iX10 q70 rfl (Nat.le_of_ble_eq_true rfl) rfl rfl rfl ?_
  refine wa_iload_n C 2 11 dX10_inOne_10 rfl rfl ?_
  obtain ⟨g2, hf⟩ := grd_ex hf
  refine wa_iald C 12 0 2 dX10_inOne_11 rfl rfl rfl (vi_in g2) ?_
  refine wa_icmp_ne C 19 15 dX10_inOne_12 rfl rfl (fun c3 => ?_) (fun c3 => ?_)
  · replace hf := ite_f hf c3
    refine wa_iconst (v := 0) C 20 dX10_inOne_19 rfl rfl ?_
    cases hf
    exact wa_zret C dX10_inOne_20 rfl rfl rfl
  · replace hf := ite_t hf c3
    refine wa_iconst (v := 1) C 16 dX10_inOne_15 rfl rfl ?_
    refine wa_goto C 20 dX10_inOne_16 rfl ?_
    cases hf
    exact wa_zret C dX10_inOne_20 rfl rfl rfl
def f_X10_isAlone (v : Ob) (p0 : Int32) : Option (Int32) := grd (vi p0 12) (grd (vi (v.2 2 (p0).toNatClampNeg) 13) ((if (v.2 6 ((v.2 2 (p0).toNatClampNeg)).toNatClampNeg) = (1 : Int32) then some ((1 : Int32)) else some ((0 : Int32)))))
set_option maxRecDepth 20000 in
theorem c_X10_isAlone {l : Launch} {D : va_G} {dT : Nat → ClassId} {a : Nat → Nat} {v : Ob} {p0 : Int32} {res : Int32} (hf : f_X10_isAlone v p0 = some res) : CTi l yX10_isAlone cX10_isAlone 2 (some .boolean) ({ frames := 0, cells := 0, slots := 0, locals := 0 } : Room) D dT [.ref (a 0), .int p0] ([wV dT a v]) ([wV dT a v]) res := by
  refine CTi.of (by decide) (Nat.le_of_ble_eq_true rfl) rfl ?_
  intro p e s m args below meth c A C
  unfold f_X10_isAlone at hf
  refine wa_aload_n C 0 1 dX10_isAlone_0 rfl rfl ?_
  refine wa_get C 4 0 0 8 dX10_isAlone_1 rfl iX10 q87 rfl (Nat.le_of_ble_eq_true rfl) rfl rfl rfl ?_
  refine wa_aload_n C 0 5 dX10_isAlone_4 rfl rfl ?_
  refine wa_get C 8 0 0 4 dX10_isAlone_5 rfl iX10 q70 rfl (Nat.le_of_ble_eq_true rfl) rfl rfl rfl ?_
  refine wa_iload_n C 1 9 dX10_isAlone_8 rfl rfl ?_
  obtain ⟨g1, hf⟩ := grd_ex hf
  refine wa_iald C 10 0 2 dX10_isAlone_9 rfl rfl rfl (vi_in g1) ?_
  obtain ⟨g2, hf⟩ := grd_ex hf
  refine wa_iald C 11 0 6 dX10_isAlone_10 rfl rfl rfl (vi_in g2) ?_
  refine wa_iconst (v := 1) C 12 dX10_isAlone_11 rfl rfl ?_
  refine wa_icmp_ne C 19 15 dX10_isAlone_12 rfl rfl (fun c3 => ?_) (fun c3 => ?_)
  · replace hf := ite_f hf c3
    refine wa_iconst (v := 0) C 20 dX10_isAlone_19 rfl rfl ?_
    cases hf
    exact wa_zret C dX10_isAlone_20 rfl rfl rfl
  · replace hf := ite_t hf c3
    refine wa_iconst (v := 1) C 16 dX10_isAlone_15 rfl rfl ?_
    refine wa_goto C 20 dX10_isAlone_16 rfl ?_
    cases hf
    exact wa_zret C dX10_isAlone_20 rfl rfl rfl
def f_X10_dwellers_L4 (l1 : Int32) (z0 : Ob) : Nat → Int32 → Int32 → Option (Int32)
  | 0, _, _ => none
  | n + 1, l2, l3 => (if (z0.1 0) ≤ l3 then some (l2) else grd (vi l3 12) ((if (z0.2 2 (l3).toNatClampNeg) = l1 then bnd (l2 ||| ((1 : Int32) <<< (l3 &&& 31))) (fun x5 => bnd (l3 + 1) (fun x6 => f_X10_dwellers_L4 l1 z0 n x5 x6)) else bnd (l3 + 1) (fun x4 => f_X10_dwellers_L4 l1 z0 n l2 x4))))
def f_X10_dwellers (v : Ob) (p0 : Int32) : Option (Int32) := f_X10_dwellers_L4 p0 v FUEL (0 : Int32) (0 : Int32)
set_option maxRecDepth 20000 in
theorem w_X10_dwellers_L4 {p : Program} {l : Launch} {e : Env} {s : State} {m : MethodId} {args : Array Value} {below : List Frame} {meth : Method} {c : Code} {D : va_G} {A : Nat → Prop} {dT : Nat → ClassId} {a : Nat → Nat} {res : Int32} {l1 : Int32} {z0 : Ob} (C : Cx p s m args meth c cX10_dwellers 4 RX10 (some .int) D A dT) : ∀ (n : Nat) (l2 : Int32) (l3 : Int32), f_X10_dwellers_L4 l1 z0 n l2 l3 = some res → WA p l e ({ frames := 0, cells := 0, slots := 0, locals := 0 } : Room) s m args below meth c (MQ below (QI D dT A ([wV dT a z0]) res) args s 0 0 A) D A 0 0 4 4 ([wV dT a z0]) [(0, .ref (a 0)), (1, .int l1), (2, .int l2), (3, .int l3)] [] := by
  intro n
  induction n with
  | zero => intro l2 l3 hf; cases hf
  | succ n ih =>
    intro l2 l3 hf
    unfold f_X10_dwellers_L4 at hf
    refine wa_iload_n C 3 5 dX10_dwellers_4 rfl rfl ?_
    refine wa_aload_n C 0 6 dX10_dwellers_5 rfl rfl ?_
    refine wa_get C 9 0 0 0 dX10_dwellers_6 rfl iX10 q48 rfl (Nat.le_of_ble_eq_true rfl) rfl rfl rfl ?_
    refine wa_icmp_ge C 34 12 dX10_dwellers_9 rfl rfl (fun c1 => ?_) (fun c1 => ?_)
    · replace hf := ite_t hf c1
      refine wa_iload_n C 2 35 dX10_dwellers_34 rfl rfl ?_
      cases hf
      exact wa_iret C dX10_dwellers_35 rfl rfl
    · replace hf := ite_f hf c1
      refine wa_aload_n C 0 13 dX10_dwellers_12 rfl rfl ?_
      refine wa_get C 16 0 0 4 dX10_dwellers_13 rfl iX10 q70 rfl (Nat.le_of_ble_eq_true rfl) rfl rfl rfl ?_
      refine wa_iload_n C 3 17 dX10_dwellers_16 rfl rfl ?_
      obtain ⟨g2, hf⟩ := grd_ex hf
      refine wa_iald C 18 0 2 dX10_dwellers_17 rfl rfl rfl (vi_in g2) ?_
      refine wa_iload_n C 1 19 dX10_dwellers_18 rfl rfl ?_
      refine wa_icmp_ne C 28 22 dX10_dwellers_19 rfl rfl (fun c3 => ?_) (fun c3 => ?_)
      · replace hf := ite_f hf c3
        obtain ⟨x4, ex4, hf⟩ := bnd_ex hf
        refine wa_iinc (v := x4) (lv' := [(0, .ref (a 0)), (1, .int l1), (2, .int l2), (3, .int x4)]) C 3 [1, 2, 3, 0] 31 dX10_dwellers_28 rfl rfl (by rw [ex4]; rfl) (Nat.le_of_ble_eq_true rfl) rfl ?_
        refine wa_goto C 4 dX10_dwellers_31 rfl ?_
        exact ih l2 x4 hf
      · replace hf := ite_t hf c3
        refine wa_iload_n C 2 23 dX10_dwellers_22 rfl rfl ?_
        refine wa_iconst (v := 1) C 24 dX10_dwellers_23 rfl rfl ?_
        refine wa_iload_n C 3 25 dX10_dwellers_24 rfl rfl ?_
        refine wa_ishl C 26 dX10_dwellers_25 rfl ?_
        refine wa_ior C 27 dX10_dwellers_26 rfl ?_
        obtain ⟨x5, ex5, hf⟩ := bnd_ex hf
        refine wa_topi ex5 ?_
        refine wa_istore_n (lv' := [(0, .ref (a 0)), (1, .int l1), (2, .int x5), (3, .int l3)]) C [1, 2, 0, 3] 28 dX10_dwellers_27 rfl (Nat.le_of_ble_eq_true rfl) rfl ?_
        obtain ⟨x6, ex6, hf⟩ := bnd_ex hf
        refine wa_iinc (v := x6) (lv' := [(0, .ref (a 0)), (1, .int l1), (2, .int x5), (3, .int x6)]) C 3 [1, 2, 3, 0] 31 dX10_dwellers_28 rfl rfl (by rw [ex6]; rfl) (Nat.le_of_ble_eq_true rfl) rfl ?_
        refine wa_goto C 4 dX10_dwellers_31 rfl ?_
        exact ih x5 x6 hf
set_option maxRecDepth 20000 in
theorem c_X10_dwellers {l : Launch} {D : va_G} {dT : Nat → ClassId} {a : Nat → Nat} {v : Ob} {p0 : Int32} {res : Int32} (hf : f_X10_dwellers v p0 = some res) : CTi l yX10_dwellers cX10_dwellers 4 (some .int) ({ frames := 0, cells := 0, slots := 0, locals := 0 } : Room) D dT [.ref (a 0), .int p0] ([wV dT a v]) ([wV dT a v]) res := by
  refine CTi.of (by decide) (Nat.le_of_ble_eq_true rfl) rfl ?_
  intro p e s m args below meth c A C
  unfold f_X10_dwellers at hf
  refine wa_iconst (v := 0) C 1 dX10_dwellers_0 rfl rfl ?_
  refine wa_istore_n (lv' := [(0, .ref (a 0)), (1, .int p0), (2, .int (0 : Int32))]) C [1, 2, 0] 2 dX10_dwellers_1 rfl (Nat.le_of_ble_eq_true rfl) rfl ?_
  refine wa_iconst (v := 0) C 3 dX10_dwellers_2 rfl rfl ?_
  refine wa_istore_n (lv' := [(0, .ref (a 0)), (1, .int p0), (2, .int (0 : Int32)), (3, .int (0 : Int32))]) C [1, 2, 3, 0] 4 dX10_dwellers_3 rfl (Nat.le_of_ble_eq_true rfl) rfl ?_
  exact w_X10_dwellers_L4 C FUEL (0 : Int32) (0 : Int32) hf
theorem kv_X10_70 : KV RX10 70 yX10_dwellers cX10_dwellers 4 (some .int) 1 := KV.mk q543 q544 q545 q3 q546 ⟨by decide, by decide, by decide +kernel⟩
def f_X10_companions (v : Ob) (p0 : Int32) : Option (Int32) := grd (vi p0 12) ((f_X10_dwellers v (v.2 2 (p0).toNatClampNeg)).bind (fun q2 => some ((q2 &&& (((1 : Int32) <<< (p0 &&& 31)) ^^^ (-1 : Int32))))))
set_option maxRecDepth 20000 in
theorem c_X10_companions {l : Launch} {D : va_G} {dT : Nat → ClassId} {a : Nat → Nat} {v : Ob} {p0 : Int32} {res : Int32} (hf : f_X10_companions v p0 = some res) : CTi l yX10_companions cX10_companions 2 (some .int) ({ frames := 1, cells := 0, slots := 0, locals := 23 } : Room) D dT [.ref (a 0), .int p0] ([wV dT a v]) ([wV dT a v]) res := by
  refine CTi.of (by decide) (Nat.le_of_ble_eq_true rfl) rfl ?_
  intro p e s m args below meth c A C
  unfold f_X10_companions at hf
  refine wa_aload_n C 0 1 dX10_companions_0 rfl rfl ?_
  refine wa_aload_n C 0 2 dX10_companions_1 rfl rfl ?_
  refine wa_get C 5 0 0 4 dX10_companions_2 rfl iX10 q70 rfl (Nat.le_of_ble_eq_true rfl) rfl rfl rfl ?_
  refine wa_iload_n C 1 6 dX10_companions_5 rfl rfl ?_
  obtain ⟨g1, hf⟩ := grd_ex hf
  refine wa_iald C 7 0 2 dX10_companions_6 rfl rfl rfl (vi_in g1) ?_
  obtain ⟨q2, hq2, hf⟩ := bind_ex hf
  refine wa_callVAi (b1 := 0) (q1 := 0) (ci := 10) (As := [.int (v.2 2 (p0).toNatClampNeg)]) C 10 dX10_companions_7 rfl kv_X10_70 (c_X10_dwellers hq2) ⟨rfl, rfl⟩ ⟨Nat.le_of_ble_eq_true rfl, Nat.le_of_ble_eq_true rfl⟩ rfl rfl rfl rfl rfl ⟨Nat.zero_le _, Nat.zero_le _⟩ (Nat.le_of_ble_eq_true rfl) ?_
  refine wa_iconst (v := 1) C 11 dX10_companions_10 rfl rfl ?_
  refine wa_iload_n C 1 12 dX10_companions_11 rfl rfl ?_
  refine wa_ishl C 13 dX10_companions_12 rfl ?_
  refine wa_iconst (v := (-1)) C 14 dX10_companions_13 rfl rfl ?_
  refine wa_ixor C 15 dX10_companions_14 rfl ?_
  refine wa_iand C 16 dX10_companions_15 rfl ?_
  cases hf
  exact wa_iret C dX10_companions_16 rfl rfl
def f_X10_ranksIn_L4 (l1 : Int32) (z0 : Ob) : Nat → Int32 → Int32 → Option (Int32)
  | 0, _, _ => none
  | n + 1, l2, l3 => (if (z0.1 0) ≤ l3 then some (l2) else grd (vi l3 12) ((if (z0.2 2 (l3).toNatClampNeg) = l1 then grd (vi l3 12) (bnd (l2 + (z0.2 1 (l3).toNatClampNeg)) (fun x6 => bnd (l3 + 1) (fun x7 => f_X10_ranksIn_L4 l1 z0 n x6 x7))) else bnd (l3 + 1) (fun x4 => f_X10_ranksIn_L4 l1 z0 n l2 x4))))
def f_X10_ranksIn (v : Ob) (p0 : Int32) : Option (Int32) := f_X10_ranksIn_L4 p0 v FUEL (0 : Int32) (0 : Int32)
set_option maxRecDepth 20000 in
theorem w_X10_ranksIn_L4 {p : Program} {l : Launch} {e : Env} {s : State} {m : MethodId} {args : Array Value} {below : List Frame} {meth : Method} {c : Code} {D : va_G} {A : Nat → Prop} {dT : Nat → ClassId} {a : Nat → Nat} {res : Int32} {l1 : Int32} {z0 : Ob} (C : Cx p s m args meth c cX10_ranksIn 4 RX10 (some .int) D A dT) : ∀ (n : Nat) (l2 : Int32) (l3 : Int32), f_X10_ranksIn_L4 l1 z0 n l2 l3 = some res → WA p l e ({ frames := 0, cells := 0, slots := 0, locals := 0 } : Room) s m args below meth c (MQ below (QI D dT A ([wV dT a z0]) res) args s 0 0 A) D A 0 0 4 4 ([wV dT a z0]) [(0, .ref (a 0)), (1, .int l1), (2, .int l2), (3, .int l3)] [] := by
  intro n
  induction n with
  | zero => intro l2 l3 hf; cases hf
  | succ n ih =>
    intro l2 l3 hf
    unfold f_X10_ranksIn_L4 at hf
    refine wa_iload_n C 3 5 dX10_ranksIn_4 rfl rfl ?_
    refine wa_aload_n C 0 6 dX10_ranksIn_5 rfl rfl ?_
    refine wa_get C 9 0 0 0 dX10_ranksIn_6 rfl iX10 q48 rfl (Nat.le_of_ble_eq_true rfl) rfl rfl rfl ?_
    refine wa_icmp_ge C 37 12 dX10_ranksIn_9 rfl rfl (fun c1 => ?_) (fun c1 => ?_)
    · replace hf := ite_t hf c1
      refine wa_iload_n C 2 38 dX10_ranksIn_37 rfl rfl ?_
      cases hf
      exact wa_iret C dX10_ranksIn_38 rfl rfl
    · replace hf := ite_f hf c1
      refine wa_aload_n C 0 13 dX10_ranksIn_12 rfl rfl ?_
      refine wa_get C 16 0 0 4 dX10_ranksIn_13 rfl iX10 q70 rfl (Nat.le_of_ble_eq_true rfl) rfl rfl rfl ?_
      refine wa_iload_n C 3 17 dX10_ranksIn_16 rfl rfl ?_
      obtain ⟨g2, hf⟩ := grd_ex hf
      refine wa_iald C 18 0 2 dX10_ranksIn_17 rfl rfl rfl (vi_in g2) ?_
      refine wa_iload_n C 1 19 dX10_ranksIn_18 rfl rfl ?_
      refine wa_icmp_ne C 31 22 dX10_ranksIn_19 rfl rfl (fun c3 => ?_) (fun c3 => ?_)
      · replace hf := ite_f hf c3
        obtain ⟨x4, ex4, hf⟩ := bnd_ex hf
        refine wa_iinc (v := x4) (lv' := [(0, .ref (a 0)), (1, .int l1), (2, .int l2), (3, .int x4)]) C 3 [1, 2, 3, 0] 34 dX10_ranksIn_31 rfl rfl (by rw [ex4]; rfl) (Nat.le_of_ble_eq_true rfl) rfl ?_
        refine wa_goto C 4 dX10_ranksIn_34 rfl ?_
        exact ih l2 x4 hf
      · replace hf := ite_t hf c3
        refine wa_iload_n C 2 23 dX10_ranksIn_22 rfl rfl ?_
        refine wa_aload_n C 0 24 dX10_ranksIn_23 rfl rfl ?_
        refine wa_get C 27 0 0 3 dX10_ranksIn_24 rfl iX10 q65 rfl (Nat.le_of_ble_eq_true rfl) rfl rfl rfl ?_
        refine wa_iload_n C 3 28 dX10_ranksIn_27 rfl rfl ?_
        obtain ⟨g5, hf⟩ := grd_ex hf
        refine wa_iald C 29 0 1 dX10_ranksIn_28 rfl rfl rfl (vi_in g5) ?_
        refine wa_iadd C 30 dX10_ranksIn_29 rfl ?_
        obtain ⟨x6, ex6, hf⟩ := bnd_ex hf
        refine wa_topi ex6 ?_
        refine wa_istore_n (lv' := [(0, .ref (a 0)), (1, .int l1), (2, .int x6), (3, .int l3)]) C [1, 2, 0, 3] 31 dX10_ranksIn_30 rfl (Nat.le_of_ble_eq_true rfl) rfl ?_
        obtain ⟨x7, ex7, hf⟩ := bnd_ex hf
        refine wa_iinc (v := x7) (lv' := [(0, .ref (a 0)), (1, .int l1), (2, .int x6), (3, .int x7)]) C 3 [1, 2, 3, 0] 34 dX10_ranksIn_31 rfl rfl (by rw [ex7]; rfl) (Nat.le_of_ble_eq_true rfl) rfl ?_
        refine wa_goto C 4 dX10_ranksIn_34 rfl ?_
        exact ih x6 x7 hf
set_option maxRecDepth 20000 in
theorem c_X10_ranksIn {l : Launch} {D : va_G} {dT : Nat → ClassId} {a : Nat → Nat} {v : Ob} {p0 : Int32} {res : Int32} (hf : f_X10_ranksIn v p0 = some res) : CTi l yX10_ranksIn cX10_ranksIn 4 (some .int) ({ frames := 0, cells := 0, slots := 0, locals := 0 } : Room) D dT [.ref (a 0), .int p0] ([wV dT a v]) ([wV dT a v]) res := by
  refine CTi.of (by decide) (Nat.le_of_ble_eq_true rfl) rfl ?_
  intro p e s m args below meth c A C
  unfold f_X10_ranksIn at hf
  refine wa_iconst (v := 0) C 1 dX10_ranksIn_0 rfl rfl ?_
  refine wa_istore_n (lv' := [(0, .ref (a 0)), (1, .int p0), (2, .int (0 : Int32))]) C [1, 2, 0] 2 dX10_ranksIn_1 rfl (Nat.le_of_ble_eq_true rfl) rfl ?_
  refine wa_iconst (v := 0) C 3 dX10_ranksIn_2 rfl rfl ?_
  refine wa_istore_n (lv' := [(0, .ref (a 0)), (1, .int p0), (2, .int (0 : Int32)), (3, .int (0 : Int32))]) C [1, 2, 3, 0] 4 dX10_ranksIn_3 rfl (Nat.le_of_ble_eq_true rfl) rfl ?_
  exact w_X10_ranksIn_L4 C FUEL (0 : Int32) (0 : Int32) hf
def f_X10_at_L2 (l1 : Int32) (l2 : Int32) (z0 : Ob) : Nat → Int32 → Option (Int32)
  | 0, _ => none
  | n + 1, l3 => (if (z0.1 0) ≤ l3 then some ((-1 : Int32)) else grd (vi l3 12) ((if (z0.2 2 (l3).toNatClampNeg) = l1 then grd (vi l3 12) ((if (z0.2 3 (l3).toNatClampNeg) = l2 then some (l3) else bnd (l3 + 1) (fun x7 => f_X10_at_L2 l1 l2 z0 n x7))) else bnd (l3 + 1) (fun x4 => f_X10_at_L2 l1 l2 z0 n x4))))
def f_X10_at (v : Ob) (p0 : Int32) (p1 : Int32) : Option (Int32) := f_X10_at_L2 p0 p1 v FUEL (0 : Int32)
set_option maxRecDepth 20000 in
theorem w_X10_at_L2 {p : Program} {l : Launch} {e : Env} {s : State} {m : MethodId} {args : Array Value} {below : List Frame} {meth : Method} {c : Code} {D : va_G} {A : Nat → Prop} {dT : Nat → ClassId} {a : Nat → Nat} {res : Int32} {l1 : Int32} {l2 : Int32} {z0 : Ob} (C : Cx p s m args meth c cX10_at 4 RX10 (some .int) D A dT) : ∀ (n : Nat) (l3 : Int32), f_X10_at_L2 l1 l2 z0 n l3 = some res → WA p l e ({ frames := 0, cells := 0, slots := 0, locals := 0 } : Room) s m args below meth c (MQ below (QI D dT A ([wV dT a z0]) res) args s 0 0 A) D A 0 0 4 2 ([wV dT a z0]) [(0, .ref (a 0)), (1, .int l1), (2, .int l2), (3, .int l3)] [] := by
  intro n
  induction n with
  | zero => intro l3 hf; cases hf
  | succ n ih =>
    intro l3 hf
    unfold f_X10_at_L2 at hf
    refine wa_iload_n C 3 3 dX10_at_2 rfl rfl ?_
    refine wa_aload_n C 0 4 dX10_at_3 rfl rfl ?_
    refine wa_get C 7 0 0 0 dX10_at_4 rfl iX10 q48 rfl (Nat.le_of_ble_eq_true rfl) rfl rfl rfl ?_
    refine wa_icmp_ge C 38 10 dX10_at_7 rfl rfl (fun c1 => ?_) (fun c1 => ?_)
    · replace hf := ite_t hf c1
      refine wa_iconst (v := (-1)) C 39 dX10_at_38 rfl rfl ?_
      cases hf
      exact wa_iret C dX10_at_39 rfl rfl
    · replace hf := ite_f hf c1
      refine wa_aload_n C 0 11 dX10_at_10 rfl rfl ?_
      refine wa_get C 14 0 0 4 dX10_at_11 rfl iX10 q70 rfl (Nat.le_of_ble_eq_true rfl) rfl rfl rfl ?_
      refine wa_iload_n C 3 15 dX10_at_14 rfl rfl ?_
      obtain ⟨g2, hf⟩ := grd_ex hf
      refine wa_iald C 16 0 2 dX10_at_15 rfl rfl rfl (vi_in g2) ?_
      refine wa_iload_n C 1 17 dX10_at_16 rfl rfl ?_
      refine wa_icmp_ne C 32 20 dX10_at_17 rfl rfl (fun c3 => ?_) (fun c3 => ?_)
      · replace hf := ite_f hf c3
        obtain ⟨x4, ex4, hf⟩ := bnd_ex hf
        refine wa_iinc (v := x4) (lv' := [(0, .ref (a 0)), (1, .int l1), (2, .int l2), (3, .int x4)]) C 3 [1, 2, 3, 0] 35 dX10_at_32 rfl rfl (by rw [ex4]; rfl) (Nat.le_of_ble_eq_true rfl) rfl ?_
        refine wa_goto C 2 dX10_at_35 rfl ?_
        exact ih x4 hf
      · replace hf := ite_t hf c3
        refine wa_aload_n C 0 21 dX10_at_20 rfl rfl ?_
        refine wa_get C 24 0 0 5 dX10_at_21 rfl iX10 q78 rfl (Nat.le_of_ble_eq_true rfl) rfl rfl rfl ?_
        refine wa_iload_n C 3 25 dX10_at_24 rfl rfl ?_
        obtain ⟨g5, hf⟩ := grd_ex hf
        refine wa_iald C 26 0 3 dX10_at_25 rfl rfl rfl (vi_in g5) ?_
        refine wa_iload_n C 2 27 dX10_at_26 rfl rfl ?_
        refine wa_icmp_ne C 32 30 dX10_at_27 rfl rfl (fun c6 => ?_) (fun c6 => ?_)
        · replace hf := ite_f hf c6
          obtain ⟨x7, ex7, hf⟩ := bnd_ex hf
          refine wa_iinc (v := x7) (lv' := [(0, .ref (a 0)), (1, .int l1), (2, .int l2), (3, .int x7)]) C 3 [1, 2, 3, 0] 35 dX10_at_32 rfl rfl (by rw [ex7]; rfl) (Nat.le_of_ble_eq_true rfl) rfl ?_
          refine wa_goto C 2 dX10_at_35 rfl ?_
          exact ih x7 hf
        · replace hf := ite_t hf c6
          refine wa_iload_n C 3 31 dX10_at_30 rfl rfl ?_
          cases hf
          exact wa_iret C dX10_at_31 rfl rfl
set_option maxRecDepth 20000 in
theorem c_X10_at {l : Launch} {D : va_G} {dT : Nat → ClassId} {a : Nat → Nat} {v : Ob} {p0 : Int32} {p1 : Int32} {res : Int32} (hf : f_X10_at v p0 p1 = some res) : CTi l yX10_at cX10_at 4 (some .int) ({ frames := 0, cells := 0, slots := 0, locals := 0 } : Room) D dT [.ref (a 0), .int p0, .int p1] ([wV dT a v]) ([wV dT a v]) res := by
  refine CTi.of (by decide) (Nat.le_of_ble_eq_true rfl) rfl ?_
  intro p e s m args below meth c A C
  unfold f_X10_at at hf
  refine wa_iconst (v := 0) C 1 dX10_at_0 rfl rfl ?_
  refine wa_istore_n (lv' := [(0, .ref (a 0)), (1, .int p0), (2, .int p1), (3, .int (0 : Int32))]) C [1, 2, 3, 0] 2 dX10_at_1 rfl (Nat.le_of_ble_eq_true rfl) rfl ?_
  exact w_X10_at_L2 C FUEL (0 : Int32) hf
def f_X10_greatest_L4 (z0 : Ob) : Nat → Int32 → Int32 → Option (Int32)
  | 0, _, _ => none
  | n + 1, l1, l2 => (if (z0.1 1) ≤ l2 then some (l1) else grd (vi l2 13) (bnd (if l1 < (z0.2 6 (l2).toNatClampNeg) then (z0.2 6 (l2).toNatClampNeg) else l1) (fun x3 => bnd (l2 + 1) (fun x4 => f_X10_greatest_L4 z0 n x3 x4))))
def f_X10_greatest (v : Ob) : Option (Int32) := f_X10_greatest_L4 v FUEL (0 : Int32) (0 : Int32)
set_option maxRecDepth 20000 in
theorem w_X10_greatest_L4 {p : Program} {l : Launch} {e : Env} {s : State} {m : MethodId} {args : Array Value} {below : List Frame} {meth : Method} {c : Code} {D : va_G} {A : Nat → Prop} {dT : Nat → ClassId} {a : Nat → Nat} {res : Int32} {z0 : Ob} (C : Cx p s m args meth c cX10_greatest 3 RX10 (some .int) D A dT) : ∀ (n : Nat) (l1 : Int32) (l2 : Int32), f_X10_greatest_L4 z0 n l1 l2 = some res → WA p l e ({ frames := 3, cells := 0, slots := 0, locals := 60 } : Room) s m args below meth c (MQ below (QI D dT A ([wV dT a z0]) res) args s 0 0 A) D A 0 0 3 4 ([wV dT a z0]) [(0, .ref (a 0)), (1, .int l1), (2, .int l2)] [] := by
  intro n
  induction n with
  | zero => intro l1 l2 hf; cases hf
  | succ n ih =>
    intro l1 l2 hf
    unfold f_X10_greatest_L4 at hf
    refine wa_iload_n C 2 5 dX10_greatest_4 rfl rfl ?_
    refine wa_aload_n C 0 6 dX10_greatest_5 rfl rfl ?_
    refine wa_get C 9 0 0 1 dX10_greatest_6 rfl iX10 q56 rfl (Nat.le_of_ble_eq_true rfl) rfl rfl rfl ?_
    refine wa_icmp_ge C 29 12 dX10_greatest_9 rfl rfl (fun c1 => ?_) (fun c1 => ?_)
    · replace hf := ite_t hf c1
      refine wa_iload_n C 1 30 dX10_greatest_29 rfl rfl ?_
      cases hf
      exact wa_iret C dX10_greatest_30 rfl rfl
    · replace hf := ite_f hf c1
      refine wa_iload_n C 1 13 dX10_greatest_12 rfl rfl ?_
      refine wa_aload_n C 0 14 dX10_greatest_13 rfl rfl ?_
      refine wa_get C 17 0 0 8 dX10_greatest_14 rfl iX10 q87 rfl (Nat.le_of_ble_eq_true rfl) rfl rfl rfl ?_
      refine wa_iload_n C 2 18 dX10_greatest_17 rfl rfl ?_
      obtain ⟨g2, hf⟩ := grd_ex hf
      refine wa_iald C 19 0 6 dX10_greatest_18 rfl rfl rfl (vi_in g2) ?_
      refine wa_mmax C 22 dX10_greatest_19 rfl q944 q740 q18 q741 (Nat.le_of_ble_eq_true rfl) (Nat.le_of_ble_eq_true rfl) ⟨Nat.zero_le _, Nat.zero_le _⟩ ?_
      obtain ⟨x3, ex3, hf⟩ := bnd_ex hf
      refine wa_topi ex3 ?_
      refine wa_istore_n (lv' := [(0, .ref (a 0)), (1, .int x3), (2, .int l2)]) C [1, 0, 2] 23 dX10_greatest_22 rfl (Nat.le_of_ble_eq_true rfl) rfl ?_
      obtain ⟨x4, ex4, hf⟩ := bnd_ex hf
      refine wa_iinc (v := x4) (lv' := [(0, .ref (a 0)), (1, .int x3), (2, .int x4)]) C 2 [1, 2, 0] 26 dX10_greatest_23 rfl rfl (by rw [ex4]; rfl) (Nat.le_of_ble_eq_true rfl) rfl ?_
      refine wa_goto C 4 dX10_greatest_26 rfl ?_
      exact ih x3 x4 hf
set_option maxRecDepth 20000 in
theorem c_X10_greatest {l : Launch} {D : va_G} {dT : Nat → ClassId} {a : Nat → Nat} {v : Ob} {res : Int32} (hf : f_X10_greatest v = some res) : CTi l yX10_greatest cX10_greatest 3 (some .int) ({ frames := 3, cells := 0, slots := 0, locals := 60 } : Room) D dT [.ref (a 0)] ([wV dT a v]) ([wV dT a v]) res := by
  refine CTi.of (by decide) (Nat.le_of_ble_eq_true rfl) rfl ?_
  intro p e s m args below meth c A C
  unfold f_X10_greatest at hf
  refine wa_iconst (v := 0) C 1 dX10_greatest_0 rfl rfl ?_
  refine wa_istore_n (lv' := [(0, .ref (a 0)), (1, .int (0 : Int32))]) C [1, 0] 2 dX10_greatest_1 rfl (Nat.le_of_ble_eq_true rfl) rfl ?_
  refine wa_iconst (v := 0) C 3 dX10_greatest_2 rfl rfl ?_
  refine wa_istore_n (lv' := [(0, .ref (a 0)), (1, .int (0 : Int32)), (2, .int (0 : Int32))]) C [1, 2, 0] 4 dX10_greatest_3 rfl (Nat.le_of_ble_eq_true rfl) rfl ?_
  exact w_X10_greatest_L4 C FUEL (0 : Int32) (0 : Int32) hf
def f_X10_greatestButFor_L14 (k7 : Int32 → Int32 → Option (Int32)) (l3 : Int32) (z0 : Ob) : Nat → Int32 → Int32 → Option (Int32)
  | 0, _, _ => none
  | n + 1, l2, l4 => (if (z0.1 1) ≤ l4 then bnd (l3 + (-1)) (fun x4 => k7 l2 x4) else grd (vi l4 13) ((if (z0.2 6 (l4).toNatClampNeg) = l3 then (if l2 = 0 then some (l3) else bnd (l2 + (-1)) (fun x9 => bnd (l4 + 1) (fun x10 => f_X10_greatestButFor_L14 k7 l3 z0 n x9 x10))) else bnd (l4 + 1) (fun x7 => f_X10_greatestButFor_L14 k7 l3 z0 n l2 x7))))
def f_X10_greatestButFor_L7 (z0 : Ob) : Nat → Int32 → Int32 → Option (Int32)
  | 0, _, _ => none
  | n + 1, l2, l3 => (if l3 ≤ 0 then some ((-1 : Int32)) else f_X10_greatestButFor_L14 (f_X10_greatestButFor_L7 z0 n) l3 z0 FUEL l2 (0 : Int32))
def f_X10_greatestButFor (v : Ob) (p0 : Int32) : Option (Int32) := bnd (v.1 0) (fun x1 => f_X10_greatestButFor_L7 v FUEL p0 x1)
set_option maxRecDepth 20000 in
theorem w_X10_greatestButFor_L14 {p : Program} {l : Launch} {e : Env} {s : State} {m : MethodId} {args : Array Value} {below : List Frame} {meth : Method} {c : Code} {D : va_G} {A : Nat → Prop} {dT : Nat → ClassId} {a : Nat → Nat} {res : Int32} {l3 : Int32} {z0 : Ob} (C : Cx p s m args meth c cX10_greatestButFor 5 RX10 (some .int) D A dT) {k7 : Int32 → Int32 → Option (Int32)} (hk7 : ∀ (l2 : Int32) (l3 : Int32), k7 l2 l3 = some res → WA p l e ({ frames := 0, cells := 0, slots := 0, locals := 0 } : Room) s m args below meth c (MQ below (QI D dT A ([wV dT a z0]) res) args s 0 0 A) D A 0 0 5 7 ([wV dT a z0]) [(0, .ref (a 0)), (2, .int l2), (3, .int l3)] []) : ∀ (n : Nat) (l2 : Int32) (l4 : Int32), f_X10_greatestButFor_L14 k7 l3 z0 n l2 l4 = some res → WA p l e ({ frames := 0, cells := 0, slots := 0, locals := 0 } : Room) s m args below meth c (MQ below (QI D dT A ([wV dT a z0]) res) args s 0 0 A) D A 0 0 5 14 ([wV dT a z0]) [(0, .ref (a 0)), (2, .int l2), (3, .int l3), (4, .int l4)] [] := by
  intro n
  induction n with
  | zero => intro l2 l4 hf; cases hf
  | succ n ih =>
    intro l2 l4 hf
    unfold f_X10_greatestButFor_L14 at hf
    refine wa_iload C 3 16 dX10_greatestButFor_14 rfl rfl ?_
    refine wa_aload_n C 0 17 dX10_greatestButFor_16 rfl rfl ?_
    refine wa_get C 20 0 0 1 dX10_greatestButFor_17 rfl iX10 q56 rfl (Nat.le_of_ble_eq_true rfl) rfl rfl rfl ?_
    refine wa_icmp_ge C 49 23 dX10_greatestButFor_20 rfl rfl (fun c3 => ?_) (fun c3 => ?_)
    · replace hf := ite_t hf c3
      obtain ⟨x4, ex4, hf⟩ := bnd_ex hf
      refine wa_iinc (v := x4) (lv' := [(0, .ref (a 0)), (2, .int l2), (3, .int x4), (4, .int l4)]) C 2 [1, 2, 0, 3] 52 dX10_greatestButFor_49 rfl rfl (by rw [ex4]; rfl) (Nat.le_of_ble_eq_true rfl) rfl ?_
      refine wa_goto C 7 dX10_greatestButFor_52 rfl ?_
      refine wa_lv (lv' := [(0, .ref (a 0)), (2, .int l2), (3, .int x4)]) [0, 1, 2] rfl ?_
      exact hk7 l2 x4 hf
    · replace hf := ite_f hf c3
      refine wa_aload_n C 0 24 dX10_greatestButFor_23 rfl rfl ?_
      refine wa_get C 27 0 0 8 dX10_greatestButFor_24 rfl iX10 q87 rfl (Nat.le_of_ble_eq_true rfl) rfl rfl rfl ?_
      refine wa_iload C 3 29 dX10_greatestButFor_27 rfl rfl ?_
      obtain ⟨g5, hf⟩ := grd_ex hf
      refine wa_iald C 30 0 6 dX10_greatestButFor_29 rfl rfl rfl (vi_in g5) ?_
      refine wa_iload_n C 2 31 dX10_greatestButFor_30 rfl rfl ?_
      refine wa_icmp_ne C 43 34 dX10_greatestButFor_31 rfl rfl (fun c6 => ?_) (fun c6 => ?_)
      · replace hf := ite_f hf c6
        obtain ⟨x7, ex7, hf⟩ := bnd_ex hf
        refine wa_iinc (v := x7) (lv' := [(0, .ref (a 0)), (2, .int l2), (3, .int l3), (4, .int x7)]) C 3 [1, 2, 3, 0] 46 dX10_greatestButFor_43 rfl rfl (by rw [ex7]; rfl) (Nat.le_of_ble_eq_true rfl) rfl ?_
        refine wa_goto C 14 dX10_greatestButFor_46 rfl ?_
        exact ih l2 x7 hf
      · replace hf := ite_t hf c6
        refine wa_iload_n C 1 35 dX10_greatestButFor_34 rfl rfl ?_
        refine wa_if_ne C 40 38 dX10_greatestButFor_35 rfl rfl (fun c8 => ?_) (fun c8 => ?_)
        · replace hf := ite_f hf c8
          obtain ⟨x9, ex9, hf⟩ := bnd_ex hf
          refine wa_iinc (v := x9) (lv' := [(0, .ref (a 0)), (2, .int x9), (3, .int l3), (4, .int l4)]) C 1 [1, 0, 2, 3] 43 dX10_greatestButFor_40 rfl rfl (by rw [ex9]; rfl) (Nat.le_of_ble_eq_true rfl) rfl ?_
          obtain ⟨x10, ex10, hf⟩ := bnd_ex hf
          refine wa_iinc (v := x10) (lv' := [(0, .ref (a 0)), (2, .int x9), (3, .int l3), (4, .int x10)]) C 3 [1, 2, 3, 0] 46 dX10_greatestButFor_43 rfl rfl (by rw [ex10]; rfl) (Nat.le_of_ble_eq_true rfl) rfl ?_
          refine wa_goto C 14 dX10_greatestButFor_46 rfl ?_
          exact ih x9 x10 hf
        · replace hf := ite_t hf c8
          refine wa_iload_n C 2 39 dX10_greatestButFor_38 rfl rfl ?_
          cases hf
          exact wa_iret C dX10_greatestButFor_39 rfl rfl
set_option maxRecDepth 20000 in
theorem w_X10_greatestButFor_L7 {p : Program} {l : Launch} {e : Env} {s : State} {m : MethodId} {args : Array Value} {below : List Frame} {meth : Method} {c : Code} {D : va_G} {A : Nat → Prop} {dT : Nat → ClassId} {a : Nat → Nat} {res : Int32} {z0 : Ob} (C : Cx p s m args meth c cX10_greatestButFor 5 RX10 (some .int) D A dT) : ∀ (n : Nat) (l2 : Int32) (l3 : Int32), f_X10_greatestButFor_L7 z0 n l2 l3 = some res → WA p l e ({ frames := 0, cells := 0, slots := 0, locals := 0 } : Room) s m args below meth c (MQ below (QI D dT A ([wV dT a z0]) res) args s 0 0 A) D A 0 0 5 7 ([wV dT a z0]) [(0, .ref (a 0)), (2, .int l2), (3, .int l3)] [] := by
  intro n
  induction n with
  | zero => intro l2 l3 hf; cases hf
  | succ n ih =>
    intro l2 l3 hf
    unfold f_X10_greatestButFor_L7 at hf
    refine wa_iload_n C 2 8 dX10_greatestButFor_7 rfl rfl ?_
    refine wa_if_le C 55 11 dX10_greatestButFor_8 rfl rfl (fun c2 => ?_) (fun c2 => ?_)
    · replace hf := ite_t hf c2
      refine wa_iconst (v := (-1)) C 56 dX10_greatestButFor_55 rfl rfl ?_
      cases hf
      exact wa_iret C dX10_greatestButFor_56 rfl rfl
    · replace hf := ite_f hf c2
      refine wa_iconst (v := 0) C 12 dX10_greatestButFor_11 rfl rfl ?_
      refine wa_istore (lv' := [(0, .ref (a 0)), (2, .int l2), (3, .int l3), (4, .int (0 : Int32))]) C [1, 2, 3, 0] 14 dX10_greatestButFor_12 rfl (Nat.le_of_ble_eq_true rfl) rfl ?_
      exact w_X10_greatestButFor_L14 C ih FUEL l2 (0 : Int32) hf
set_option maxRecDepth 20000 in
theorem c_X10_greatestButFor {l : Launch} {D : va_G} {dT : Nat → ClassId} {a : Nat → Nat} {v : Ob} {p0 : Int32} {res : Int32} (hf : f_X10_greatestButFor v p0 = some res) : CTi l yX10_greatestButFor cX10_greatestButFor 5 (some .int) ({ frames := 0, cells := 0, slots := 0, locals := 0 } : Room) D dT [.ref (a 0), .int p0] ([wV dT a v]) ([wV dT a v]) res := by
  refine CTi.of (by decide) (Nat.le_of_ble_eq_true rfl) rfl ?_
  intro p e s m args below meth c A C
  unfold f_X10_greatestButFor at hf
  refine wa_iload_n C 1 1 dX10_greatestButFor_0 rfl rfl ?_
  refine wa_istore_n (lv' := [(0, .ref (a 0)), (1, .int p0), (2, .int p0)]) C [1, 2, 0] 2 dX10_greatestButFor_1 rfl (Nat.le_of_ble_eq_true rfl) rfl ?_
  refine wa_aload_n C 0 3 dX10_greatestButFor_2 rfl rfl ?_
  refine wa_get C 6 0 0 0 dX10_greatestButFor_3 rfl iX10 q48 rfl (Nat.le_of_ble_eq_true rfl) rfl rfl rfl ?_
  obtain ⟨x1, ex1, hf⟩ := bnd_ex hf
  refine wa_topi ex1 ?_
  refine wa_istore_n (lv' := [(0, .ref (a 0)), (1, .int p0), (2, .int p0), (3, .int x1)]) C [1, 2, 3, 0] 7 dX10_greatestButFor_6 rfl (Nat.le_of_ble_eq_true rfl) rfl ?_
  refine wa_lv (lv' := [(0, .ref (a 0)), (2, .int p0), (3, .int x1)]) [0, 2, 3] rfl ?_
  exact w_X10_greatestButFor_L7 C FUEL p0 x1 hf
theorem kv_X10_77 : KV RX10 77 yX10_isAlone cX10_isAlone 2 (some .boolean) 1 := KV.mk q949 q950 q951 q3 q952 ⟨by decide, by decide, by decide +kernel⟩
def f_X10_alone_L4 (z0 : Ob) : Nat → Int32 → Int32 → Option (Int32)
  | 0, _, _ => none
  | n + 1, l1, l2 => (if (z0.1 0) ≤ l2 then some (l1) else (f_X10_isAlone z0 l2).bind (fun q2 => (if q2 = 0 then bnd (l2 + 1) (fun x4 => f_X10_alone_L4 z0 n l1 x4) else bnd (l1 ||| ((1 : Int32) <<< (l2 &&& 31))) (fun x5 => bnd (l2 + 1) (fun x6 => f_X10_alone_L4 z0 n x5 x6)))))
def f_X10_alone (v : Ob) : Option (Int32) := f_X10_alone_L4 v FUEL (0 : Int32) (0 : Int32)
set_option maxRecDepth 20000 in
theorem w_X10_alone_L4 {p : Program} {l : Launch} {e : Env} {s : State} {m : MethodId} {args : Array Value} {below : List Frame} {meth : Method} {c : Code} {D : va_G} {A : Nat → Prop} {dT : Nat → ClassId} {a : Nat → Nat} {res : Int32} {z0 : Ob} (C : Cx p s m args meth c cX10_alone 3 RX10 (some .int) D A dT) : ∀ (n : Nat) (l1 : Int32) (l2 : Int32), f_X10_alone_L4 z0 n l1 l2 = some res → WA p l e ({ frames := 1, cells := 0, slots := 0, locals := 21 } : Room) s m args below meth c (MQ below (QI D dT A ([wV dT a z0]) res) args s 0 0 A) D A 0 0 3 4 ([wV dT a z0]) [(0, .ref (a 0)), (1, .int l1), (2, .int l2)] [] := by
  intro n
  induction n with
  | zero => intro l1 l2 hf; cases hf
  | succ n ih =>
    intro l1 l2 hf
    unfold f_X10_alone_L4 at hf
    refine wa_iload_n C 2 5 dX10_alone_4 rfl rfl ?_
    refine wa_aload_n C 0 6 dX10_alone_5 rfl rfl ?_
    refine wa_get C 9 0 0 0 dX10_alone_6 rfl iX10 q48 rfl (Nat.le_of_ble_eq_true rfl) rfl rfl rfl ?_
    refine wa_icmp_ge C 32 12 dX10_alone_9 rfl rfl (fun c1 => ?_) (fun c1 => ?_)
    · replace hf := ite_t hf c1
      refine wa_iload_n C 1 33 dX10_alone_32 rfl rfl ?_
      cases hf
      exact wa_iret C dX10_alone_33 rfl rfl
    · replace hf := ite_f hf c1
      refine wa_aload_n C 0 13 dX10_alone_12 rfl rfl ?_
      refine wa_iload_n C 2 14 dX10_alone_13 rfl rfl ?_
      obtain ⟨q2, hq2, hf⟩ := bind_ex hf
      refine wa_callVAi (b1 := 0) (q1 := 0) (ci := 10) (As := [.int l2]) C 17 dX10_alone_14 rfl kv_X10_77 (c_X10_isAlone hq2) ⟨rfl, rfl⟩ ⟨Nat.le_of_ble_eq_true rfl, Nat.le_of_ble_eq_true rfl⟩ rfl rfl rfl rfl rfl ⟨Nat.zero_le _, Nat.zero_le _⟩ (Nat.le_of_ble_eq_true rfl) ?_
      refine wa_if_eq C 26 20 dX10_alone_17 rfl rfl (fun c3 => ?_) (fun c3 => ?_)
      · replace hf := ite_t hf c3
        obtain ⟨x4, ex4, hf⟩ := bnd_ex hf
        refine wa_iinc (v := x4) (lv' := [(0, .ref (a 0)), (1, .int l1), (2, .int x4)]) C 2 [1, 2, 0] 29 dX10_alone_26 rfl rfl (by rw [ex4]; rfl) (Nat.le_of_ble_eq_true rfl) rfl ?_
        refine wa_goto C 4 dX10_alone_29 rfl ?_
        exact ih l1 x4 hf
      · replace hf := ite_f hf c3
        refine wa_iload_n C 1 21 dX10_alone_20 rfl rfl ?_
        refine wa_iconst (v := 1) C 22 dX10_alone_21 rfl rfl ?_
        refine wa_iload_n C 2 23 dX10_alone_22 rfl rfl ?_
        refine wa_ishl C 24 dX10_alone_23 rfl ?_
        refine wa_ior C 25 dX10_alone_24 rfl ?_
        obtain ⟨x5, ex5, hf⟩ := bnd_ex hf
        refine wa_topi ex5 ?_
        refine wa_istore_n (lv' := [(0, .ref (a 0)), (1, .int x5), (2, .int l2)]) C [1, 0, 2] 26 dX10_alone_25 rfl (Nat.le_of_ble_eq_true rfl) rfl ?_
        obtain ⟨x6, ex6, hf⟩ := bnd_ex hf
        refine wa_iinc (v := x6) (lv' := [(0, .ref (a 0)), (1, .int x5), (2, .int x6)]) C 2 [1, 2, 0] 29 dX10_alone_26 rfl rfl (by rw [ex6]; rfl) (Nat.le_of_ble_eq_true rfl) rfl ?_
        refine wa_goto C 4 dX10_alone_29 rfl ?_
        exact ih x5 x6 hf
set_option maxRecDepth 20000 in
theorem c_X10_alone {l : Launch} {D : va_G} {dT : Nat → ClassId} {a : Nat → Nat} {v : Ob} {res : Int32} (hf : f_X10_alone v = some res) : CTi l yX10_alone cX10_alone 3 (some .int) ({ frames := 1, cells := 0, slots := 0, locals := 21 } : Room) D dT [.ref (a 0)] ([wV dT a v]) ([wV dT a v]) res := by
  refine CTi.of (by decide) (Nat.le_of_ble_eq_true rfl) rfl ?_
  intro p e s m args below meth c A C
  unfold f_X10_alone at hf
  refine wa_iconst (v := 0) C 1 dX10_alone_0 rfl rfl ?_
  refine wa_istore_n (lv' := [(0, .ref (a 0)), (1, .int (0 : Int32))]) C [1, 0] 2 dX10_alone_1 rfl (Nat.le_of_ble_eq_true rfl) rfl ?_
  refine wa_iconst (v := 0) C 3 dX10_alone_2 rfl rfl ?_
  refine wa_istore_n (lv' := [(0, .ref (a 0)), (1, .int (0 : Int32)), (2, .int (0 : Int32))]) C [1, 2, 0] 4 dX10_alone_3 rfl (Nat.le_of_ble_eq_true rfl) rfl ?_
  exact w_X10_alone_L4 C FUEL (0 : Int32) (0 : Int32) hf
def f_X10_isStairs_L4 (z0 : Ob) : Nat → Int32 → Int32 → Option (Int32)
  | 0, _, _ => none
  | n + 1, l1, l2 => (if (z0.1 1) ≤ l2 then (if l1 = (((1 : Int32) <<< ((z0.1 1) &&& 31)) - (1 : Int32)) then some ((1 : Int32)) else some ((0 : Int32))) else grd (vi l2 13) (bnd (l1 ||| ((1 : Int32) <<< (((z0.2 6 (l2).toNatClampNeg) - (1 : Int32)) &&& 31))) (fun x4 => bnd (l2 + 1) (fun x5 => f_X10_isStairs_L4 z0 n x4 x5))))
def f_X10_isStairs (v : Ob) : Option (Int32) := f_X10_isStairs_L4 v FUEL (0 : Int32) (0 : Int32)
set_option maxRecDepth 20000 in
theorem w_X10_isStairs_L4 {p : Program} {l : Launch} {e : Env} {s : State} {m : MethodId} {args : Array Value} {below : List Frame} {meth : Method} {c : Code} {D : va_G} {A : Nat → Prop} {dT : Nat → ClassId} {a : Nat → Nat} {res : Int32} {z0 : Ob} (C : Cx p s m args meth c cX10_isStairs 3 RX10 (some .boolean) D A dT) : ∀ (n : Nat) (l1 : Int32) (l2 : Int32), f_X10_isStairs_L4 z0 n l1 l2 = some res → WA p l e ({ frames := 0, cells := 0, slots := 0, locals := 0 } : Room) s m args below meth c (MQ below (QI D dT A ([wV dT a z0]) res) args s 0 0 A) D A 0 0 3 4 ([wV dT a z0]) [(0, .ref (a 0)), (1, .int l1), (2, .int l2)] [] := by
  intro n
  induction n with
  | zero => intro l1 l2 hf; cases hf
  | succ n ih =>
    intro l1 l2 hf
    unfold f_X10_isStairs_L4 at hf
    refine wa_iload_n C 2 5 dX10_isStairs_4 rfl rfl ?_
    refine wa_aload_n C 0 6 dX10_isStairs_5 rfl rfl ?_
    refine wa_get C 9 0 0 1 dX10_isStairs_6 rfl iX10 q56 rfl (Nat.le_of_ble_eq_true rfl) rfl rfl rfl ?_
    refine wa_icmp_ge C 31 12 dX10_isStairs_9 rfl rfl (fun c1 => ?_) (fun c1 => ?_)
    · replace hf := ite_t hf c1
      refine wa_iload_n C 1 32 dX10_isStairs_31 rfl rfl ?_
      refine wa_iconst (v := 1) C 33 dX10_isStairs_32 rfl rfl ?_
      refine wa_aload_n C 0 34 dX10_isStairs_33 rfl rfl ?_
      refine wa_get C 37 0 0 1 dX10_isStairs_34 rfl iX10 q56 rfl (Nat.le_of_ble_eq_true rfl) rfl rfl rfl ?_
      refine wa_ishl C 38 dX10_isStairs_37 rfl ?_
      refine wa_iconst (v := 1) C 39 dX10_isStairs_38 rfl rfl ?_
      refine wa_isub C 40 dX10_isStairs_39 rfl ?_
      refine wa_icmp_ne C 47 43 dX10_isStairs_40 rfl rfl (fun c2 => ?_) (fun c2 => ?_)
      · replace hf := ite_f hf c2
        refine wa_iconst (v := 0) C 48 dX10_isStairs_47 rfl rfl ?_
        cases hf
        exact wa_zret C dX10_isStairs_48 rfl rfl rfl
      · replace hf := ite_t hf c2
        refine wa_iconst (v := 1) C 44 dX10_isStairs_43 rfl rfl ?_
        refine wa_goto C 48 dX10_isStairs_44 rfl ?_
        cases hf
        exact wa_zret C dX10_isStairs_48 rfl rfl rfl
    · replace hf := ite_f hf c1
      refine wa_iload_n C 1 13 dX10_isStairs_12 rfl rfl ?_
      refine wa_iconst (v := 1) C 14 dX10_isStairs_13 rfl rfl ?_
      refine wa_aload_n C 0 15 dX10_isStairs_14 rfl rfl ?_
      refine wa_get C 18 0 0 8 dX10_isStairs_15 rfl iX10 q87 rfl (Nat.le_of_ble_eq_true rfl) rfl rfl rfl ?_
      refine wa_iload_n C 2 19 dX10_isStairs_18 rfl rfl ?_
      obtain ⟨g3, hf⟩ := grd_ex hf
      refine wa_iald C 20 0 6 dX10_isStairs_19 rfl rfl rfl (vi_in g3) ?_
      refine wa_iconst (v := 1) C 21 dX10_isStairs_20 rfl rfl ?_
      refine wa_isub C 22 dX10_isStairs_21 rfl ?_
      refine wa_ishl C 23 dX10_isStairs_22 rfl ?_
      refine wa_ior C 24 dX10_isStairs_23 rfl ?_
      obtain ⟨x4, ex4, hf⟩ := bnd_ex hf
      refine wa_topi ex4 ?_
      refine wa_istore_n (lv' := [(0, .ref (a 0)), (1, .int x4), (2, .int l2)]) C [1, 0, 2] 25 dX10_isStairs_24 rfl (Nat.le_of_ble_eq_true rfl) rfl ?_
      obtain ⟨x5, ex5, hf⟩ := bnd_ex hf
      refine wa_iinc (v := x5) (lv' := [(0, .ref (a 0)), (1, .int x4), (2, .int x5)]) C 2 [1, 2, 0] 28 dX10_isStairs_25 rfl rfl (by rw [ex5]; rfl) (Nat.le_of_ble_eq_true rfl) rfl ?_
      refine wa_goto C 4 dX10_isStairs_28 rfl ?_
      exact ih x4 x5 hf
set_option maxRecDepth 20000 in
theorem c_X10_isStairs {l : Launch} {D : va_G} {dT : Nat → ClassId} {a : Nat → Nat} {v : Ob} {res : Int32} (hf : f_X10_isStairs v = some res) : CTi l yX10_isStairs cX10_isStairs 3 (some .boolean) ({ frames := 0, cells := 0, slots := 0, locals := 0 } : Room) D dT [.ref (a 0)] ([wV dT a v]) ([wV dT a v]) res := by
  refine CTi.of (by decide) (Nat.le_of_ble_eq_true rfl) rfl ?_
  intro p e s m args below meth c A C
  unfold f_X10_isStairs at hf
  refine wa_iconst (v := 0) C 1 dX10_isStairs_0 rfl rfl ?_
  refine wa_istore_n (lv' := [(0, .ref (a 0)), (1, .int (0 : Int32))]) C [1, 0] 2 dX10_isStairs_1 rfl (Nat.le_of_ble_eq_true rfl) rfl ?_
  refine wa_iconst (v := 0) C 3 dX10_isStairs_2 rfl rfl ?_
  refine wa_istore_n (lv' := [(0, .ref (a 0)), (1, .int (0 : Int32)), (2, .int (0 : Int32))]) C [1, 2, 0] 4 dX10_isStairs_3 rfl (Nat.le_of_ble_eq_true rfl) rfl ?_
  exact w_X10_isStairs_L4 C FUEL (0 : Int32) (0 : Int32) hf
def f_X10_sizesKey_L4 (z0 : Ob) : Nat → Int64 → Int32 → Option (Int64)
  | 0, _, _ => none
  | n + 1, l1, l3 => (if (z0.1 1) ≤ l3 then some (l1) else grd (vi l3 13) (bnd (l1 + ((1 : Int64) <<< (((4 : Int32) * ((z0.2 6 (l3).toNatClampNeg) - (1 : Int32))).toInt64 &&& 63))) (fun x4 => bnd (l3 + 1) (fun x5 => f_X10_sizesKey_L4 z0 n x4 x5))))
def f_X10_sizesKey (v : Ob) : Option (Int64) := bnd (0 : Int64) (fun x1 => f_X10_sizesKey_L4 v FUEL x1 (0 : Int32))
set_option maxRecDepth 20000 in
theorem w_X10_sizesKey_L4 {p : Program} {l : Launch} {e : Env} {s : State} {m : MethodId} {args : Array Value} {below : List Frame} {meth : Method} {c : Code} {D : va_G} {A : Nat → Prop} {dT : Nat → ClassId} {a : Nat → Nat} {res : Int64} {z0 : Ob} (C : Cx p s m args meth c cX10_sizesKey 4 RX10 (some .long) D A dT) : ∀ (n : Nat) (l1 : Int64) (l3 : Int32), f_X10_sizesKey_L4 z0 n l1 l3 = some res → WA p l e ({ frames := 0, cells := 0, slots := 0, locals := 0 } : Room) s m args below meth c (MQ below (QL D dT A ([wV dT a z0]) res) args s 0 0 A) D A 0 0 4 4 ([wV dT a z0]) [(0, .ref (a 0)), (1, .long l1), (3, .int l3)] [] := by
  intro n
  induction n with
  | zero => intro l1 l3 hf; cases hf
  | succ n ih =>
    intro l1 l3 hf
    unfold f_X10_sizesKey_L4 at hf
    refine wa_iload_n C 2 5 dX10_sizesKey_4 rfl rfl ?_
    refine wa_aload_n C 0 6 dX10_sizesKey_5 rfl rfl ?_
    refine wa_get C 9 0 0 1 dX10_sizesKey_6 rfl iX10 q56 rfl (Nat.le_of_ble_eq_true rfl) rfl rfl rfl ?_
    refine wa_icmp_ge C 33 12 dX10_sizesKey_9 rfl rfl (fun c2 => ?_) (fun c2 => ?_)
    · replace hf := ite_t hf c2
      refine wa_lload_n C 1 34 dX10_sizesKey_33 rfl rfl ?_
      cases hf
      exact wa_lret C dX10_sizesKey_34 rfl rfl
    · replace hf := ite_f hf c2
      refine wa_lload_n C 1 13 dX10_sizesKey_12 rfl rfl ?_
      refine wa_lconst (v := 1) C 14 dX10_sizesKey_13 rfl rfl ?_
      refine wa_iconst (v := 4) C 15 dX10_sizesKey_14 rfl rfl ?_
      refine wa_aload_n C 0 16 dX10_sizesKey_15 rfl rfl ?_
      refine wa_get C 19 0 0 8 dX10_sizesKey_16 rfl iX10 q87 rfl (Nat.le_of_ble_eq_true rfl) rfl rfl rfl ?_
      refine wa_iload_n C 2 20 dX10_sizesKey_19 rfl rfl ?_
      obtain ⟨g3, hf⟩ := grd_ex hf
      refine wa_iald C 21 0 6 dX10_sizesKey_20 rfl rfl rfl (vi_in g3) ?_
      refine wa_iconst (v := 1) C 22 dX10_sizesKey_21 rfl rfl ?_
      refine wa_isub C 23 dX10_sizesKey_22 rfl ?_
      refine wa_imul C 24 dX10_sizesKey_23 rfl ?_
      refine wa_lshl C 25 dX10_sizesKey_24 rfl ?_
      refine wa_ladd C 26 dX10_sizesKey_25 rfl ?_
      obtain ⟨x4, ex4, hf⟩ := bnd_ex hf
      refine wa_topl ex4 ?_
      refine wa_lstore_n (lv' := [(0, .ref (a 0)), (1, .long x4), (3, .int l3)]) C [1, 0, 2] 27 dX10_sizesKey_26 rfl (Nat.le_of_ble_eq_true rfl) rfl ?_
      obtain ⟨x5, ex5, hf⟩ := bnd_ex hf
      refine wa_iinc (v := x5) (lv' := [(0, .ref (a 0)), (1, .long x4), (3, .int x5)]) C 2 [1, 2, 0] 30 dX10_sizesKey_27 rfl rfl (by rw [ex5]; rfl) (Nat.le_of_ble_eq_true rfl) rfl ?_
      refine wa_goto C 4 dX10_sizesKey_30 rfl ?_
      exact ih x4 x5 hf
set_option maxRecDepth 20000 in
theorem c_X10_sizesKey {l : Launch} {D : va_G} {dT : Nat → ClassId} {a : Nat → Nat} {v : Ob} {res : Int64} (hf : f_X10_sizesKey v = some res) : CTl l yX10_sizesKey cX10_sizesKey 4 (some .long) ({ frames := 0, cells := 0, slots := 0, locals := 0 } : Room) D dT [.ref (a 0)] ([wV dT a v]) ([wV dT a v]) res := by
  refine CTl.of (by decide) (Nat.le_of_ble_eq_true rfl) rfl ?_
  intro p e s m args below meth c A C
  unfold f_X10_sizesKey at hf
  refine wa_lconst (v := 0) C 1 dX10_sizesKey_0 rfl rfl ?_
  obtain ⟨x1, ex1, hf⟩ := bnd_ex hf
  refine wa_topl ex1 ?_
  refine wa_lstore_n (lv' := [(0, .ref (a 0)), (1, .long x1)]) C [1, 0] 2 dX10_sizesKey_1 rfl (Nat.le_of_ble_eq_true rfl) rfl ?_
  refine wa_iconst (v := 0) C 3 dX10_sizesKey_2 rfl rfl ?_
  refine wa_istore_n (lv' := [(0, .ref (a 0)), (1, .long x1), (3, .int (0 : Int32))]) C [1, 2, 0] 4 dX10_sizesKey_3 rfl (Nat.le_of_ble_eq_true rfl) rfl ?_
  exact w_X10_sizesKey_L4 C FUEL x1 (0 : Int32) hf
def f_J6_bitCount_0f7a4 (p0 : Int32) : Option (Int32) := bnd (p0 - (((p0.toUInt32 >>> ((1 : Int32).toUInt32 &&& Int32.toUInt32 31)).toInt32) &&& (1431655765 : Int32))) (fun x1 => bnd ((x1 &&& (858993459 : Int32)) + (((x1.toUInt32 >>> ((2 : Int32).toUInt32 &&& Int32.toUInt32 31)).toInt32) &&& (858993459 : Int32))) (fun x2 => bnd ((x2 + ((x2.toUInt32 >>> ((4 : Int32).toUInt32 &&& Int32.toUInt32 31)).toInt32)) &&& (252645135 : Int32)) (fun x3 => bnd (x3 + ((x3.toUInt32 >>> ((8 : Int32).toUInt32 &&& Int32.toUInt32 31)).toInt32)) (fun x4 => bnd (x4 + ((x4.toUInt32 >>> ((16 : Int32).toUInt32 &&& Int32.toUInt32 31)).toInt32)) (fun x5 => some ((x5 &&& (63 : Int32))))))))
set_option maxRecDepth 20000 in
theorem c_J6_bitCount_0f7a4 {l : Launch} {D : va_G} {dT : Nat → ClassId} {p0 : Int32} {res : Int32} (hf : f_J6_bitCount_0f7a4 p0 = some res) : CTi l yJ6_bitCount_0f7a4 cJ6_bitCount_0f7a4 1 (some .int) ({ frames := 0, cells := 0, slots := 0, locals := 0 } : Room) D dT [.int p0] ([]) ([]) res := by
  refine CTi.of (by decide) (Nat.le_of_ble_eq_true rfl) rfl ?_
  intro p e s m args below meth c A C
  unfold f_J6_bitCount_0f7a4 at hf
  refine wa_iload_n C 0 1 dJ6_bitCount_0f7a4_0 rfl rfl ?_
  refine wa_iload_n C 0 2 dJ6_bitCount_0f7a4_1 rfl rfl ?_
  refine wa_iconst (v := 1) C 3 dJ6_bitCount_0f7a4_2 rfl rfl ?_
  refine wa_iushr C 4 dJ6_bitCount_0f7a4_3 rfl ?_
  refine wa_ldcw (v := 1431655765) C 7 dJ6_bitCount_0f7a4_4 rfl q964 ?_
  refine wa_iand C 8 dJ6_bitCount_0f7a4_7 rfl ?_
  refine wa_isub C 9 dJ6_bitCount_0f7a4_8 rfl ?_
  obtain ⟨x1, ex1, hf⟩ := bnd_ex hf
  refine wa_topi ex1 ?_
  refine wa_istore_n (lv' := [(0, .int x1)]) C [0] 10 dJ6_bitCount_0f7a4_9 rfl (Nat.le_of_ble_eq_true rfl) rfl ?_
  refine wa_iload_n C 0 11 dJ6_bitCount_0f7a4_10 rfl rfl ?_
  refine wa_ldcw (v := 858993459) C 14 dJ6_bitCount_0f7a4_11 rfl q965 ?_
  refine wa_iand C 15 dJ6_bitCount_0f7a4_14 rfl ?_
  refine wa_iload_n C 0 16 dJ6_bitCount_0f7a4_15 rfl rfl ?_
  refine wa_iconst (v := 2) C 17 dJ6_bitCount_0f7a4_16 rfl rfl ?_
  refine wa_iushr C 18 dJ6_bitCount_0f7a4_17 rfl ?_
  refine wa_ldcw (v := 858993459) C 21 dJ6_bitCount_0f7a4_18 rfl q965 ?_
  refine wa_iand C 22 dJ6_bitCount_0f7a4_21 rfl ?_
  refine wa_iadd C 23 dJ6_bitCount_0f7a4_22 rfl ?_
  obtain ⟨x2, ex2, hf⟩ := bnd_ex hf
  refine wa_topi ex2 ?_
  refine wa_istore_n (lv' := [(0, .int x2)]) C [0] 24 dJ6_bitCount_0f7a4_23 rfl (Nat.le_of_ble_eq_true rfl) rfl ?_
  refine wa_iload_n C 0 25 dJ6_bitCount_0f7a4_24 rfl rfl ?_
  refine wa_iload_n C 0 26 dJ6_bitCount_0f7a4_25 rfl rfl ?_
  refine wa_iconst (v := 4) C 27 dJ6_bitCount_0f7a4_26 rfl rfl ?_
  refine wa_iushr C 28 dJ6_bitCount_0f7a4_27 rfl ?_
  refine wa_iadd C 29 dJ6_bitCount_0f7a4_28 rfl ?_
  refine wa_ldcw (v := 252645135) C 32 dJ6_bitCount_0f7a4_29 rfl q966 ?_
  refine wa_iand C 33 dJ6_bitCount_0f7a4_32 rfl ?_
  obtain ⟨x3, ex3, hf⟩ := bnd_ex hf
  refine wa_topi ex3 ?_
  refine wa_istore_n (lv' := [(0, .int x3)]) C [0] 34 dJ6_bitCount_0f7a4_33 rfl (Nat.le_of_ble_eq_true rfl) rfl ?_
  refine wa_iload_n C 0 35 dJ6_bitCount_0f7a4_34 rfl rfl ?_
  refine wa_iload_n C 0 36 dJ6_bitCount_0f7a4_35 rfl rfl ?_
  refine wa_bipush (v := 8) C 38 dJ6_bitCount_0f7a4_36 rfl rfl ?_
  refine wa_iushr C 39 dJ6_bitCount_0f7a4_38 rfl ?_
  refine wa_iadd C 40 dJ6_bitCount_0f7a4_39 rfl ?_
  obtain ⟨x4, ex4, hf⟩ := bnd_ex hf
  refine wa_topi ex4 ?_
  refine wa_istore_n (lv' := [(0, .int x4)]) C [0] 41 dJ6_bitCount_0f7a4_40 rfl (Nat.le_of_ble_eq_true rfl) rfl ?_
  refine wa_iload_n C 0 42 dJ6_bitCount_0f7a4_41 rfl rfl ?_
  refine wa_iload_n C 0 43 dJ6_bitCount_0f7a4_42 rfl rfl ?_
  refine wa_bipush (v := 16) C 45 dJ6_bitCount_0f7a4_43 rfl rfl ?_
  refine wa_iushr C 46 dJ6_bitCount_0f7a4_45 rfl ?_
  refine wa_iadd C 47 dJ6_bitCount_0f7a4_46 rfl ?_
  obtain ⟨x5, ex5, hf⟩ := bnd_ex hf
  refine wa_topi ex5 ?_
  refine wa_istore_n (lv' := [(0, .int x5)]) C [0] 48 dJ6_bitCount_0f7a4_47 rfl (Nat.le_of_ble_eq_true rfl) rfl ?_
  refine wa_iload_n C 0 49 dJ6_bitCount_0f7a4_48 rfl rfl ?_
  refine wa_bipush (v := 63) C 51 dJ6_bitCount_0f7a4_49 rfl rfl ?_
  refine wa_iand C 52 dJ6_bitCount_0f7a4_51 rfl ?_
  cases hf
  exact wa_iret C dJ6_bitCount_0f7a4_52 rfl rfl
theorem ks_X10_81 : KS RX10 81 yJ6_bitCount_0f7a4 cJ6_bitCount_0f7a4 1 (some .int) 1 := KS.mk q961 q962 q25 q963 ⟨by decide, by decide, by decide +kernel⟩
def f_X10_pasts_L13 (z0 : Ob) : Nat → Int32 → Int32 → Option (Int32)
  | 0, _, _ => none
  | n + 1, l1, l2 => (if (z0.1 1) ≤ l2 then (f_J6_bitCount_0f7a4 l1).bind (fun q3 => some (q3)) else grd (vi l2 13) ((if (z0.2 6 (l2).toNatClampNeg) < ((z0.1 1) - (1 : Int32)) then bnd (l2 + 1) (fun x6 => f_X10_pasts_L13 z0 n l1 x6) else grd (vi l2 13) (bnd (l1 ||| ((1 : Int32) <<< ((z0.2 6 (l2).toNatClampNeg) &&& 31))) (fun x8 => bnd (l2 + 1) (fun x9 => f_X10_pasts_L13 z0 n x8 x9))))))
def f_X10_pasts (v : Ob) : Option (Int32) := (if (v.1 0) = 0 then some ((1 : Int32)) else f_X10_pasts_L13 v FUEL (0 : Int32) (0 : Int32))
set_option maxRecDepth 20000 in
theorem w_X10_pasts_L13 {p : Program} {l : Launch} {e : Env} {s : State} {m : MethodId} {args : Array Value} {below : List Frame} {meth : Method} {c : Code} {D : va_G} {A : Nat → Prop} {dT : Nat → ClassId} {a : Nat → Nat} {res : Int32} {z0 : Ob} (C : Cx p s m args meth c cX10_pasts 3 RX10 (some .int) D A dT) : ∀ (n : Nat) (l1 : Int32) (l2 : Int32), f_X10_pasts_L13 z0 n l1 l2 = some res → WA p l e ({ frames := 1, cells := 0, slots := 0, locals := 20 } : Room) s m args below meth c (MQ below (QI D dT A ([wV dT a z0]) res) args s 0 0 A) D A 0 0 3 13 ([wV dT a z0]) [(0, .ref (a 0)), (1, .int l1), (2, .int l2)] [] := by
  intro n
  induction n with
  | zero => intro l1 l2 hf; cases hf
  | succ n ih =>
    intro l1 l2 hf
    unfold f_X10_pasts_L13 at hf
    refine wa_iload_n C 2 14 dX10_pasts_13 rfl rfl ?_
    refine wa_aload_n C 0 15 dX10_pasts_14 rfl rfl ?_
    refine wa_get C 18 0 0 1 dX10_pasts_15 rfl iX10 q56 rfl (Nat.le_of_ble_eq_true rfl) rfl rfl rfl ?_
    refine wa_icmp_ge C 53 21 dX10_pasts_18 rfl rfl (fun c2 => ?_) (fun c2 => ?_)
    · replace hf := ite_t hf c2
      refine wa_iload_n C 1 54 dX10_pasts_53 rfl rfl ?_
      obtain ⟨q3, hq3, hf⟩ := bind_ex hf
      refine wa_callS0i (As := [.int l1]) C 57 dX10_pasts_54 rfl ks_X10_81 (c_J6_bitCount_0f7a4 hq3) ⟨rfl, rfl⟩ ⟨Nat.le_of_ble_eq_true rfl, Nat.le_of_ble_eq_true rfl⟩ rfl rfl ⟨Nat.zero_le _, Nat.zero_le _⟩ (Nat.le_of_ble_eq_true rfl) ?_
      cases hf
      exact wa_iret C dX10_pasts_57 rfl rfl
    · replace hf := ite_f hf c2
      refine wa_aload_n C 0 22 dX10_pasts_21 rfl rfl ?_
      refine wa_get C 25 0 0 8 dX10_pasts_22 rfl iX10 q87 rfl (Nat.le_of_ble_eq_true rfl) rfl rfl rfl ?_
      refine wa_iload_n C 2 26 dX10_pasts_25 rfl rfl ?_
      obtain ⟨g4, hf⟩ := grd_ex hf
      refine wa_iald C 27 0 6 dX10_pasts_26 rfl rfl rfl (vi_in g4) ?_
      refine wa_aload_n C 0 28 dX10_pasts_27 rfl rfl ?_
      refine wa_get C 31 0 0 1 dX10_pasts_28 rfl iX10 q56 rfl (Nat.le_of_ble_eq_true rfl) rfl rfl rfl ?_
      refine wa_iconst (v := 1) C 32 dX10_pasts_31 rfl rfl ?_
      refine wa_isub C 33 dX10_pasts_32 rfl ?_
      refine wa_icmp_lt C 47 36 dX10_pasts_33 rfl rfl (fun c5 => ?_) (fun c5 => ?_)
      · replace hf := ite_t hf c5
        obtain ⟨x6, ex6, hf⟩ := bnd_ex hf
        refine wa_iinc (v := x6) (lv' := [(0, .ref (a 0)), (1, .int l1), (2, .int x6)]) C 2 [1, 2, 0] 50 dX10_pasts_47 rfl rfl (by rw [ex6]; rfl) (Nat.le_of_ble_eq_true rfl) rfl ?_
        refine wa_goto C 13 dX10_pasts_50 rfl ?_
        exact ih l1 x6 hf
      · replace hf := ite_f hf c5
        refine wa_iload_n C 1 37 dX10_pasts_36 rfl rfl ?_
        refine wa_iconst (v := 1) C 38 dX10_pasts_37 rfl rfl ?_
        refine wa_aload_n C 0 39 dX10_pasts_38 rfl rfl ?_
        refine wa_get C 42 0 0 8 dX10_pasts_39 rfl iX10 q87 rfl (Nat.le_of_ble_eq_true rfl) rfl rfl rfl ?_
        refine wa_iload_n C 2 43 dX10_pasts_42 rfl rfl ?_
        obtain ⟨g7, hf⟩ := grd_ex hf
        refine wa_iald C 44 0 6 dX10_pasts_43 rfl rfl rfl (vi_in g7) ?_
        refine wa_ishl C 45 dX10_pasts_44 rfl ?_
        refine wa_ior C 46 dX10_pasts_45 rfl ?_
        obtain ⟨x8, ex8, hf⟩ := bnd_ex hf
        refine wa_topi ex8 ?_
        refine wa_istore_n (lv' := [(0, .ref (a 0)), (1, .int x8), (2, .int l2)]) C [1, 0, 2] 47 dX10_pasts_46 rfl (Nat.le_of_ble_eq_true rfl) rfl ?_
        obtain ⟨x9, ex9, hf⟩ := bnd_ex hf
        refine wa_iinc (v := x9) (lv' := [(0, .ref (a 0)), (1, .int x8), (2, .int x9)]) C 2 [1, 2, 0] 50 dX10_pasts_47 rfl rfl (by rw [ex9]; rfl) (Nat.le_of_ble_eq_true rfl) rfl ?_
        refine wa_goto C 13 dX10_pasts_50 rfl ?_
        exact ih x8 x9 hf
set_option maxRecDepth 20000 in
theorem c_X10_pasts {l : Launch} {D : va_G} {dT : Nat → ClassId} {a : Nat → Nat} {v : Ob} {res : Int32} (hf : f_X10_pasts v = some res) : CTi l yX10_pasts cX10_pasts 3 (some .int) ({ frames := 1, cells := 0, slots := 0, locals := 20 } : Room) D dT [.ref (a 0)] ([wV dT a v]) ([wV dT a v]) res := by
  refine CTi.of (by decide) (Nat.le_of_ble_eq_true rfl) rfl ?_
  intro p e s m args below meth c A C
  unfold f_X10_pasts at hf
  refine wa_aload_n C 0 1 dX10_pasts_0 rfl rfl ?_
  refine wa_get C 4 0 0 0 dX10_pasts_1 rfl iX10 q48 rfl (Nat.le_of_ble_eq_true rfl) rfl rfl rfl ?_
  refine wa_if_ne C 9 7 dX10_pasts_4 rfl rfl (fun c1 => ?_) (fun c1 => ?_)
  · replace hf := ite_f hf c1
    refine wa_iconst (v := 0) C 10 dX10_pasts_9 rfl rfl ?_
    refine wa_istore_n (lv' := [(0, .ref (a 0)), (1, .int (0 : Int32))]) C [1, 0] 11 dX10_pasts_10 rfl (Nat.le_of_ble_eq_true rfl) rfl ?_
    refine wa_iconst (v := 0) C 12 dX10_pasts_11 rfl rfl ?_
    refine wa_istore_n (lv' := [(0, .ref (a 0)), (1, .int (0 : Int32)), (2, .int (0 : Int32))]) C [1, 2, 0] 13 dX10_pasts_12 rfl (Nat.le_of_ble_eq_true rfl) rfl ?_
    exact w_X10_pasts_L13 C FUEL (0 : Int32) (0 : Int32) hf
  · replace hf := ite_t hf c1
    refine wa_iconst (v := 1) C 8 dX10_pasts_7 rfl rfl ?_
    cases hf
    exact wa_iret C dX10_pasts_8 rfl rfl
def f_X10_steadiest_L4 (z0 : Ob) : Nat → Int32 → Int32 → Option (Int32)
  | 0, _, _ => none
  | n + 1, l1, l2 => (if (z0.1 0) ≤ l2 then some (l1) else (if l1 = (-1 : Int32) then bnd (l2 + 1) (fun x3 => f_X10_steadiest_L4 z0 n l2 x3) else grd (vi l2 12) (grd (vi l1 12) ((if (z0.2 4 (l1).toNatClampNeg) ≤ (z0.2 4 (l2).toNatClampNeg) then bnd (l2 + 1) (fun x7 => f_X10_steadiest_L4 z0 n l1 x7) else bnd (l2 + 1) (fun x8 => f_X10_steadiest_L4 z0 n l2 x8))))))
def f_X10_steadiest (v : Ob) : Option (Int32) := f_X10_steadiest_L4 v FUEL (-1 : Int32) (0 : Int32)
set_option maxRecDepth 20000 in
theorem w_X10_steadiest_L4 {p : Program} {l : Launch} {e : Env} {s : State} {m : MethodId} {args : Array Value} {below : List Frame} {meth : Method} {c : Code} {D : va_G} {A : Nat → Prop} {dT : Nat → ClassId} {a : Nat → Nat} {res : Int32} {z0 : Ob} (C : Cx p s m args meth c cX10_steadiest 3 RX10 (some .int) D A dT) : ∀ (n : Nat) (l1 : Int32) (l2 : Int32), f_X10_steadiest_L4 z0 n l1 l2 = some res → WA p l e ({ frames := 0, cells := 0, slots := 0, locals := 0 } : Room) s m args below meth c (MQ below (QI D dT A ([wV dT a z0]) res) args s 0 0 A) D A 0 0 3 4 ([wV dT a z0]) [(0, .ref (a 0)), (1, .int l1), (2, .int l2)] [] := by
  intro n
  induction n with
  | zero => intro l1 l2 hf; cases hf
  | succ n ih =>
    intro l1 l2 hf
    unfold f_X10_steadiest_L4 at hf
    refine wa_iload_n C 2 5 dX10_steadiest_4 rfl rfl ?_
    refine wa_aload_n C 0 6 dX10_steadiest_5 rfl rfl ?_
    refine wa_get C 9 0 0 0 dX10_steadiest_6 rfl iX10 q48 rfl (Nat.le_of_ble_eq_true rfl) rfl rfl rfl ?_
    refine wa_icmp_ge C 40 12 dX10_steadiest_9 rfl rfl (fun c1 => ?_) (fun c1 => ?_)
    · replace hf := ite_t hf c1
      refine wa_iload_n C 1 41 dX10_steadiest_40 rfl rfl ?_
      cases hf
      exact wa_iret C dX10_steadiest_41 rfl rfl
    · replace hf := ite_f hf c1
      refine wa_iload_n C 1 13 dX10_steadiest_12 rfl rfl ?_
      refine wa_iconst (v := (-1)) C 14 dX10_steadiest_13 rfl rfl ?_
      refine wa_icmp_eq C 32 17 dX10_steadiest_14 rfl rfl (fun c2 => ?_) (fun c2 => ?_)
      · replace hf := ite_t hf c2
        refine wa_iload_n C 2 33 dX10_steadiest_32 rfl rfl ?_
        refine wa_istore_n (lv' := [(0, .ref (a 0)), (1, .int l2), (2, .int l2)]) C [1, 0, 2] 34 dX10_steadiest_33 rfl (Nat.le_of_ble_eq_true rfl) rfl ?_
        obtain ⟨x3, ex3, hf⟩ := bnd_ex hf
        refine wa_iinc (v := x3) (lv' := [(0, .ref (a 0)), (1, .int l2), (2, .int x3)]) C 2 [1, 2, 0] 37 dX10_steadiest_34 rfl rfl (by rw [ex3]; rfl) (Nat.le_of_ble_eq_true rfl) rfl ?_
        refine wa_goto C 4 dX10_steadiest_37 rfl ?_
        exact ih l2 x3 hf
      · replace hf := ite_f hf c2
        refine wa_aload_n C 0 18 dX10_steadiest_17 rfl rfl ?_
        refine wa_get C 21 0 0 6 dX10_steadiest_18 rfl iX10 q81 rfl (Nat.le_of_ble_eq_true rfl) rfl rfl rfl ?_
        refine wa_iload_n C 2 22 dX10_steadiest_21 rfl rfl ?_
        obtain ⟨g4, hf⟩ := grd_ex hf
        refine wa_iald C 23 0 4 dX10_steadiest_22 rfl rfl rfl (vi_in g4) ?_
        refine wa_aload_n C 0 24 dX10_steadiest_23 rfl rfl ?_
        refine wa_get C 27 0 0 6 dX10_steadiest_24 rfl iX10 q81 rfl (Nat.le_of_ble_eq_true rfl) rfl rfl rfl ?_
        refine wa_iload_n C 1 28 dX10_steadiest_27 rfl rfl ?_
        obtain ⟨g5, hf⟩ := grd_ex hf
        refine wa_iald C 29 0 4 dX10_steadiest_28 rfl rfl rfl (vi_in g5) ?_
        refine wa_icmp_ge C 34 32 dX10_steadiest_29 rfl rfl (fun c6 => ?_) (fun c6 => ?_)
        · replace hf := ite_t hf c6
          obtain ⟨x7, ex7, hf⟩ := bnd_ex hf
          refine wa_iinc (v := x7) (lv' := [(0, .ref (a 0)), (1, .int l1), (2, .int x7)]) C 2 [1, 2, 0] 37 dX10_steadiest_34 rfl rfl (by rw [ex7]; rfl) (Nat.le_of_ble_eq_true rfl) rfl ?_
          refine wa_goto C 4 dX10_steadiest_37 rfl ?_
          exact ih l1 x7 hf
        · replace hf := ite_f hf c6
          refine wa_iload_n C 2 33 dX10_steadiest_32 rfl rfl ?_
          refine wa_istore_n (lv' := [(0, .ref (a 0)), (1, .int l2), (2, .int l2)]) C [1, 0, 2] 34 dX10_steadiest_33 rfl (Nat.le_of_ble_eq_true rfl) rfl ?_
          obtain ⟨x8, ex8, hf⟩ := bnd_ex hf
          refine wa_iinc (v := x8) (lv' := [(0, .ref (a 0)), (1, .int l2), (2, .int x8)]) C 2 [1, 2, 0] 37 dX10_steadiest_34 rfl rfl (by rw [ex8]; rfl) (Nat.le_of_ble_eq_true rfl) rfl ?_
          refine wa_goto C 4 dX10_steadiest_37 rfl ?_
          exact ih l2 x8 hf
set_option maxRecDepth 20000 in
theorem c_X10_steadiest {l : Launch} {D : va_G} {dT : Nat → ClassId} {a : Nat → Nat} {v : Ob} {res : Int32} (hf : f_X10_steadiest v = some res) : CTi l yX10_steadiest cX10_steadiest 3 (some .int) ({ frames := 0, cells := 0, slots := 0, locals := 0 } : Room) D dT [.ref (a 0)] ([wV dT a v]) ([wV dT a v]) res := by
  refine CTi.of (by decide) (Nat.le_of_ble_eq_true rfl) rfl ?_
  intro p e s m args below meth c A C
  unfold f_X10_steadiest at hf
  refine wa_iconst (v := (-1)) C 1 dX10_steadiest_0 rfl rfl ?_
  refine wa_istore_n (lv' := [(0, .ref (a 0)), (1, .int (-1 : Int32))]) C [1, 0] 2 dX10_steadiest_1 rfl (Nat.le_of_ble_eq_true rfl) rfl ?_
  refine wa_iconst (v := 0) C 3 dX10_steadiest_2 rfl rfl ?_
  refine wa_istore_n (lv' := [(0, .ref (a 0)), (1, .int (-1 : Int32)), (2, .int (0 : Int32))]) C [1, 2, 0] 4 dX10_steadiest_3 rfl (Nat.le_of_ble_eq_true rfl) rfl ?_
  exact w_X10_steadiest_L4 C FUEL (-1 : Int32) (0 : Int32) hf
