theorem kv_X6_163 : KV RX6 163 yX6_expr cX6_expr 5 (some .int) 2 := KV.mk q870 q872 qs25 q2 q873 ⟨by decide, by decide, by decide +kernel⟩
theorem kv_X6_172 : KV RX6 172 yX7_add cX7_add 2 none 1 := KV.mk q895 q896 q897 q5 q898 ⟨by decide, by decide, by decide +kernel⟩
theorem kv_X6_190 : KV RX6 190 yX6_valueAsked cX6_valueAsked 1 (some .int) 0 := KV.mk q899 q901 qs31 q2 q902 ⟨by decide, by decide, by decide +kernel⟩
def f_X6_part_J114 (rec : Ob → (Nat → Int32) → Ob → Nat → Int32 → Option (Int32 × Ob × Ob)) (nt : Nat) (z1 : (Nat → Int32)) (z0 : Ob) (z2 : Ob) : Option (Int32 × Ob × Ob) := (f_X6_next z0 z1 nt).bind (fun q9 => some ((0 : Int32), q9, z2))
def f_X6_part_J37 (rec : Ob → (Nat → Int32) → Ob → Nat → Int32 → Option (Int32 × Ob × Ob)) (nt : Nat) (z1 : (Nat → Int32)) (l3 : Int32) (z0 : Ob) (z2 : Ob) : Option (Int32 × Ob × Ob) := (if l3 = 0 then f_X6_part_J114 rec nt z1 z0 z2 else some (l3, z0, z2))
def f_X6_part (rec : Ob → (Nat → Int32) → Ob → Nat → Int32 → Option (Int32 × Ob × Ob)) (v : Ob) (ut : (Nat → Int32)) (v0 : Ob) (nt : Nat) (p1 : Int32) : Option (Int32 × Ob × Ob) := (if (v.1 8) = (40 : Int32) then (f_X6_next v ut nt).bind (fun q14 => (rec q14 ut v0 nt (p1 + (1 : Int32))).bind (fun q16 => (if q16.1 = 0 then (if (q16.2.1.1 8) = (41 : Int32) then f_X6_part_J37 rec nt ut q16.1 q16.2.1 q16.2.2 else f_X6_part_J37 rec nt ut (1 : Int32) q16.2.1 q16.2.2) else f_X6_part_J37 rec nt ut q16.1 q16.2.1 q16.2.2))) else (if (v.1 8) = (2 : Int32) then (if ((v.1 7) - (v.1 6)) ≤ (4 : Int32) then (f_X7_add v0 (v.1 9)).bind (fun q12 => f_X6_part_J114 rec nt ut v q12) else some ((2 : Int32), v, v0)) else (if (v.1 8) = (1 : Int32) then (f_X6_valueAsked v ut nt).bind (fun q4 => (if q4 = (-1 : Int32) then some ((3 : Int32), v, v0) else (f_X7_add v0 ((10000 : Int32) + q4)).bind (fun q7 => f_X6_part_J114 rec nt ut v q7))) else some ((1 : Int32), v, v0))))
set_option maxRecDepth 20000 in
theorem w_X6_part_J114 {p : Program} {l : Launch} {e : Env} {s : State} {m : MethodId} {args : Array Value} {below : List Frame} {meth : Method} {c : Code} {D : va_G} {A : Nat → Prop} {dT : Nat → ClassId} {a : Nat → Nat} {bt : Nat} {a0 : Nat → Nat} {h_village : Nat} {h_friends : Nat} {h_picks : Nat} {h_keeps : Nat} {aK aV : Nat → Nat} {nt : Nat} {res : Int32 × Ob × Ob} {z1 : (Nat → Int32)} {rec : Ob → (Nat → Int32) → Ob → Nat → Int32 → Option (Int32 × Ob × Ob)} {rmE : Room} (hrm : rmE.cells = 0 ∧ rmE.slots = 0) (hrec : ∀ (a : Nat → Nat) (bt : Nat) (a0 : Nat → Nat) (h_village : Nat) (h_friends : Nat) (h_picks : Nat) (h_keeps : Nat) (v : Ob) (ut : (Nat → Int32)) (v0 : Ob) (nt : Nat) (p1 : Int32) (res9 : Int32 × Ob × Ob), rec v ut v0 nt p1 = some res9 → CEi aK aV l yX6_expr cX6_expr 5 (some .int) rmE D dT [.ref (a 0), .ref (a0 0), .int p1] ([wRd dT a h_village h_friends h_picks h_keeps bt v, [(bt, .inl (dT 2, nt, .inl ut))], wR dT a0 v0]) ([wRd dT a h_village h_friends h_picks h_keeps bt res9.2.1, [(bt, .inl (dT 2, nt, .inl ut))], wR dT a0 res9.2.2]) res9.1) (C : Cx p s m args meth c cX6_part 4 RX6 (some .int) D A dT) (E : AMB aK aV A s s.heap) : ∀ (z0 : Ob) (z2 : Ob), f_X6_part_J114 rec nt z1 z0 z2 = some res → WA p l e ({ frames := rmE.frames + 8, cells := 0, slots := 0, locals := rmE.locals + 300 } : Room) s m args below meth c (MQ below (QI D dT A ([wRd dT a h_village h_friends h_picks h_keeps bt res.2.1, [(bt, .inl (dT 2, nt, .inl z1))], wR dT a0 res.2.2]) res.1) args s 0 0 A) D A 0 0 4 114 ([wRd dT a h_village h_friends h_picks h_keeps bt z0, [(bt, .inl (dT 2, nt, .inl z1))], wR dT a0 z2]) [(0, .ref (a 0))] [] := by
  intro z0 z2 hf
  unfold f_X6_part_J114 at hf
  refine wa_aload_n C 0 115 dX6_part_114 rfl rfl ?_
  obtain ⟨q9, hq9, hf⟩ := bind_ex hf
  refine we_callVv (ws' := [wRd dT a h_village h_friends h_picks h_keeps bt q9, [(bt, .inl (dT 2, nt, .inl z1))], wR dT a0 z2]) (As := []) C E 118 dX6_part_115 rfl kv_X6_72 (c_X6_next hq9) ⟨rfl, rfl⟩ ⟨by show 6 + 1 ≤ rmE.frames + 8; omega, by show 8 + (2 + 11) + 126 ≤ rmE.locals + 300; omega⟩ (rv_obj (ci := 6) C 0 0 rfl rfl rfl) [0, 1] [2] [1, 2, 0] rfl rfl rfl rfl (by decide) rfl rfl rfl rfl ⟨Nat.zero_le _, Nat.zero_le _⟩ (Nat.le_of_ble_eq_true rfl) ?_
  refine wa_iconst (v := 0) C 119 dX6_part_118 rfl rfl ?_
  cases hf
  exact wa_iret C dX6_part_119 rfl rfl
set_option maxRecDepth 20000 in
theorem w_X6_part_J37 {p : Program} {l : Launch} {e : Env} {s : State} {m : MethodId} {args : Array Value} {below : List Frame} {meth : Method} {c : Code} {D : va_G} {A : Nat → Prop} {dT : Nat → ClassId} {a : Nat → Nat} {bt : Nat} {a0 : Nat → Nat} {h_village : Nat} {h_friends : Nat} {h_picks : Nat} {h_keeps : Nat} {aK aV : Nat → Nat} {nt : Nat} {res : Int32 × Ob × Ob} {z1 : (Nat → Int32)} {rec : Ob → (Nat → Int32) → Ob → Nat → Int32 → Option (Int32 × Ob × Ob)} {rmE : Room} (hrm : rmE.cells = 0 ∧ rmE.slots = 0) (hrec : ∀ (a : Nat → Nat) (bt : Nat) (a0 : Nat → Nat) (h_village : Nat) (h_friends : Nat) (h_picks : Nat) (h_keeps : Nat) (v : Ob) (ut : (Nat → Int32)) (v0 : Ob) (nt : Nat) (p1 : Int32) (res9 : Int32 × Ob × Ob), rec v ut v0 nt p1 = some res9 → CEi aK aV l yX6_expr cX6_expr 5 (some .int) rmE D dT [.ref (a 0), .ref (a0 0), .int p1] ([wRd dT a h_village h_friends h_picks h_keeps bt v, [(bt, .inl (dT 2, nt, .inl ut))], wR dT a0 v0]) ([wRd dT a h_village h_friends h_picks h_keeps bt res9.2.1, [(bt, .inl (dT 2, nt, .inl ut))], wR dT a0 res9.2.2]) res9.1) (C : Cx p s m args meth c cX6_part 4 RX6 (some .int) D A dT) (E : AMB aK aV A s s.heap) : ∀ (l3 : Int32) (z0 : Ob) (z2 : Ob), f_X6_part_J37 rec nt z1 l3 z0 z2 = some res → WA p l e ({ frames := rmE.frames + 8, cells := 0, slots := 0, locals := rmE.locals + 300 } : Room) s m args below meth c (MQ below (QI D dT A ([wRd dT a h_village h_friends h_picks h_keeps bt res.2.1, [(bt, .inl (dT 2, nt, .inl z1))], wR dT a0 res.2.2]) res.1) args s 0 0 A) D A 0 0 4 37 ([wRd dT a h_village h_friends h_picks h_keeps bt z0, [(bt, .inl (dT 2, nt, .inl z1))], wR dT a0 z2]) [(0, .ref (a 0)), (3, .int l3)] [] := by
  intro l3 z0 z2 hf
  unfold f_X6_part_J37 at hf
  refine wa_iload_n C 1 38 dX6_part_37 rfl rfl ?_
  refine wa_if_eq C 43 41 dX6_part_38 rfl rfl (fun c19 => ?_) (fun c19 => ?_)
  · replace hf := ite_t hf c19
    refine wa_goto C 114 dX6_part_43 rfl ?_
    refine wa_lv (lv' := [(0, .ref (a 0))]) [0] rfl ?_
    exact w_X6_part_J114 hrm hrec C E z0 z2 hf
  · replace hf := ite_f hf c19
    refine wa_iload_n C 1 42 dX6_part_41 rfl rfl ?_
    cases hf
    exact wa_iret C dX6_part_42 rfl rfl
set_option maxRecDepth 20000 in
theorem c_X6_part {l : Launch} {D : va_G} {dT : Nat → ClassId} {a : Nat → Nat} {bt : Nat} {a0 : Nat → Nat} {h_village : Nat} {h_friends : Nat} {h_picks : Nat} {h_keeps : Nat} {aK aV : Nat → Nat} {nt : Nat} {v : Ob} {ut : (Nat → Int32)} {v0 : Ob} {p1 : Int32} {rec : Ob → (Nat → Int32) → Ob → Nat → Int32 → Option (Int32 × Ob × Ob)} {rmE : Room} (hrm : rmE.cells = 0 ∧ rmE.slots = 0) (hrec : ∀ (a : Nat → Nat) (bt : Nat) (a0 : Nat → Nat) (h_village : Nat) (h_friends : Nat) (h_picks : Nat) (h_keeps : Nat) (v : Ob) (ut : (Nat → Int32)) (v0 : Ob) (nt : Nat) (p1 : Int32) (res9 : Int32 × Ob × Ob), rec v ut v0 nt p1 = some res9 → CEi aK aV l yX6_expr cX6_expr 5 (some .int) rmE D dT [.ref (a 0), .ref (a0 0), .int p1] ([wRd dT a h_village h_friends h_picks h_keeps bt v, [(bt, .inl (dT 2, nt, .inl ut))], wR dT a0 v0]) ([wRd dT a h_village h_friends h_picks h_keeps bt res9.2.1, [(bt, .inl (dT 2, nt, .inl ut))], wR dT a0 res9.2.2]) res9.1) {res : Int32 × Ob × Ob} (hf : f_X6_part rec v ut v0 nt p1 = some res) : CEi aK aV l yX6_part cX6_part 4 (some .int) ({ frames := rmE.frames + 8, cells := 0, slots := 0, locals := rmE.locals + 300 } : Room) D dT [.ref (a 0), .ref (a0 0), .int p1] ([wRd dT a h_village h_friends h_picks h_keeps bt v, [(bt, .inl (dT 2, nt, .inl ut))], wR dT a0 v0]) ([wRd dT a h_village h_friends h_picks h_keeps bt res.2.1, [(bt, .inl (dT 2, nt, .inl ut))], wR dT a0 res.2.2]) res.1 := by
  refine CEi.of (by decide) (Nat.le_of_ble_eq_true rfl) rfl ?_
  intro p e s m args below meth c A C E
  unfold f_X6_part at hf
  refine wa_aload_n C 0 1 dX6_part_0 rfl rfl ?_
  refine wa_get C 4 0 0 8 dX6_part_1 rfl iX6 q169 rfl (Nat.le_of_ble_eq_true rfl) rfl rfl rfl ?_
  refine wa_bipush (v := 40) C 6 dX6_part_4 rfl rfl ?_
  refine wa_icmp_ne C 46 9 dX6_part_6 rfl rfl (fun c1 => ?_) (fun c1 => ?_)
  · replace hf := ite_f hf c1
    refine wa_aload_n C 0 47 dX6_part_46 rfl rfl ?_
    refine wa_get C 50 0 0 8 dX6_part_47 rfl iX6 q169 rfl (Nat.le_of_ble_eq_true rfl) rfl rfl rfl ?_
    refine wa_iconst (v := 2) C 51 dX6_part_50 rfl rfl ?_
    refine wa_icmp_ne C 80 54 dX6_part_51 rfl rfl (fun c2 => ?_) (fun c2 => ?_)
    · replace hf := ite_f hf c2
      refine wa_aload_n C 0 81 dX6_part_80 rfl rfl ?_
      refine wa_get C 84 0 0 8 dX6_part_81 rfl iX6 q169 rfl (Nat.le_of_ble_eq_true rfl) rfl rfl rfl ?_
      refine wa_iconst (v := 1) C 85 dX6_part_84 rfl rfl ?_
      refine wa_icmp_ne C 112 88 dX6_part_85 rfl rfl (fun c3 => ?_) (fun c3 => ?_)
      · replace hf := ite_f hf c3
        refine wa_iconst (v := 1) C 113 dX6_part_112 rfl rfl ?_
        cases hf
        exact wa_iret C dX6_part_113 rfl rfl
      · replace hf := ite_t hf c3
        refine wa_aload_n C 0 89 dX6_part_88 rfl rfl ?_
        obtain ⟨q4, hq4, hf⟩ := bind_ex hf
        refine we_callVi (ws' := [wRd dT a h_village h_friends h_picks h_keeps bt v, [(bt, .inl (dT 2, nt, .inl ut))], wR dT a0 v0]) (As := []) C E 92 dX6_part_89 rfl kv_X6_190 (c_X6_valueAsked hq4) ⟨rfl, rfl⟩ ⟨by show 5 + 1 ≤ rmE.frames + 8; omega, by show 8 + (1 + 11) + 107 ≤ rmE.locals + 300; omega⟩ (rv_obj (ci := 6) C 0 0 rfl rfl rfl) [0, 1] [2] [1, 2, 0] rfl rfl rfl rfl (by decide) rfl rfl rfl rfl ⟨Nat.zero_le _, Nat.zero_le _⟩ (Nat.le_of_ble_eq_true rfl) ?_
        refine wa_istore_n (lv' := [(0, .ref (a 0)), (1, .ref (a0 0)), (2, .int p1), (3, .int q4)]) C [1, 2, 3, 0] 93 dX6_part_92 rfl (Nat.le_of_ble_eq_true rfl) rfl ?_
        refine wa_iload_n C 3 94 dX6_part_93 rfl rfl ?_
        refine wa_iconst (v := (-1)) C 95 dX6_part_94 rfl rfl ?_
        refine wa_icmp_ne C 100 98 dX6_part_95 rfl rfl (fun c6 => ?_) (fun c6 => ?_)
        · replace hf := ite_f hf c6
          refine wa_aload_n C 1 101 dX6_part_100 rfl rfl ?_
          refine wa_sipush (v := 10000) C 104 dX6_part_101 rfl rfl ?_
          refine wa_iload_n C 3 105 dX6_part_104 rfl rfl ?_
          refine wa_iadd C 106 dX6_part_105 rfl ?_
          obtain ⟨q7, hq7, hf⟩ := bind_ex hf
          refine wa_callVv (b1 := 2) (q1 := 0) (ci := 7) (ws' := [wRd dT a h_village h_friends h_picks h_keeps bt v, [(bt, .inl (dT 2, nt, .inl ut))], wR dT a0 q7]) (As := [.int ((10000 : Int32) + q4)]) C 109 dX6_part_106 rfl kv_X6_172 (c_X7_add hq7) ⟨rfl, rfl⟩ ⟨by show 0 + 1 ≤ rmE.frames + 8; omega, by show 8 + (2 + 11) + 0 ≤ rmE.locals + 300; omega⟩ rfl rfl rfl [2] [0, 1] [0, 1, 2] rfl rfl rfl rfl (by decide) rfl rfl rfl rfl ⟨Nat.zero_le _, Nat.zero_le _⟩ (Nat.le_of_ble_eq_true rfl) ?_
          refine wa_goto C 114 dX6_part_109 rfl ?_
          refine wa_lv (lv' := [(0, .ref (a 0))]) [0] rfl ?_
          exact w_X6_part_J114 hrm hrec C E v q7 hf
        · replace hf := ite_t hf c6
          refine wa_iconst (v := 3) C 99 dX6_part_98 rfl rfl ?_
          cases hf
          exact wa_iret C dX6_part_99 rfl rfl
    · replace hf := ite_t hf c2
      refine wa_aload_n C 0 55 dX6_part_54 rfl rfl ?_
      refine wa_get C 58 0 0 7 dX6_part_55 rfl iX6 q168 rfl (Nat.le_of_ble_eq_true rfl) rfl rfl rfl ?_
      refine wa_aload_n C 0 59 dX6_part_58 rfl rfl ?_
      refine wa_get C 62 0 0 6 dX6_part_59 rfl iX6 q167 rfl (Nat.le_of_ble_eq_true rfl) rfl rfl rfl ?_
      refine wa_isub C 63 dX6_part_62 rfl ?_
      refine wa_iconst (v := 4) C 64 dX6_part_63 rfl rfl ?_
      refine wa_icmp_le C 69 67 dX6_part_64 rfl rfl (fun c11 => ?_) (fun c11 => ?_)
      · replace hf := ite_t hf c11
        refine wa_aload_n C 1 70 dX6_part_69 rfl rfl ?_
        refine wa_aload_n C 0 71 dX6_part_70 rfl rfl ?_
        refine wa_get C 74 0 0 9 dX6_part_71 rfl iX6 q170 rfl (Nat.le_of_ble_eq_true rfl) rfl rfl rfl ?_
        obtain ⟨q12, hq12, hf⟩ := bind_ex hf
        refine wa_callVv (b1 := 2) (q1 := 0) (ci := 7) (ws' := [wRd dT a h_village h_friends h_picks h_keeps bt v, [(bt, .inl (dT 2, nt, .inl ut))], wR dT a0 q12]) (As := [.int (v.1 9)]) C 77 dX6_part_74 rfl kv_X6_172 (c_X7_add hq12) ⟨rfl, rfl⟩ ⟨by show 0 + 1 ≤ rmE.frames + 8; omega, by show 8 + (2 + 11) + 0 ≤ rmE.locals + 300; omega⟩ rfl rfl rfl [2] [0, 1] [0, 1, 2] rfl rfl rfl rfl (by decide) rfl rfl rfl rfl ⟨Nat.zero_le _, Nat.zero_le _⟩ (Nat.le_of_ble_eq_true rfl) ?_
        refine wa_goto C 114 dX6_part_77 rfl ?_
        refine wa_lv (lv' := [(0, .ref (a 0))]) [0] rfl ?_
        exact w_X6_part_J114 hrm hrec C E v q12 hf
      · replace hf := ite_f hf c11
        refine wa_iconst (v := 2) C 68 dX6_part_67 rfl rfl ?_
        cases hf
        exact wa_iret C dX6_part_68 rfl rfl
  · replace hf := ite_t hf c1
    refine wa_aload_n C 0 10 dX6_part_9 rfl rfl ?_
    obtain ⟨q14, hq14, hf⟩ := bind_ex hf
    refine we_callVv (ws' := [wRd dT a h_village h_friends h_picks h_keeps bt q14, [(bt, .inl (dT 2, nt, .inl ut))], wR dT a0 v0]) (As := []) C E 13 dX6_part_10 rfl kv_X6_72 (c_X6_next hq14) ⟨rfl, rfl⟩ ⟨by show 6 + 1 ≤ rmE.frames + 8; omega, by show 8 + (2 + 11) + 126 ≤ rmE.locals + 300; omega⟩ (rv_obj (ci := 6) C 0 0 rfl rfl rfl) [0, 1] [2] [1, 2, 0] rfl rfl rfl rfl (by decide) rfl rfl rfl rfl ⟨Nat.zero_le _, Nat.zero_le _⟩ (Nat.le_of_ble_eq_true rfl) ?_
    refine wa_aload_n C 0 14 dX6_part_13 rfl rfl ?_
    refine wa_aload_n C 1 15 dX6_part_14 rfl rfl ?_
    refine wa_iload_n C 2 16 dX6_part_15 rfl rfl ?_
    refine wa_iconst (v := 1) C 17 dX6_part_16 rfl rfl ?_
    refine wa_iadd C 18 dX6_part_17 rfl ?_
    obtain ⟨q16, hq16, hf⟩ := bind_ex hf
    refine we_callVi (ws' := [wRd dT a h_village h_friends h_picks h_keeps bt q16.2.1, [(bt, .inl (dT 2, nt, .inl ut))], wR dT a0 q16.2.2]) (As := [.ref (a0 0), .int (p1 + (1 : Int32))]) C E 21 dX6_part_18 rfl kv_X6_163 (hrec _ _ _ _ _ _ _ _ _ _ _ _ _ hq16) hrm ⟨by show rmE.frames + 1 ≤ rmE.frames + 8; omega, by show 8 + (5 + 11) + rmE.locals ≤ rmE.locals + 300; omega⟩ (rv_obj (ci := 6) C 0 0 rfl rfl rfl) [0, 1, 2] [] [0, 1, 2] rfl rfl rfl rfl (by decide) rfl rfl rfl rfl ⟨Nat.zero_le _, Nat.zero_le _⟩ (Nat.le_of_ble_eq_true rfl) ?_
    refine wa_istore_n (lv' := [(0, .ref (a 0)), (1, .ref (a0 0)), (2, .int p1), (3, .int q16.1)]) C [1, 2, 3, 0] 22 dX6_part_21 rfl (Nat.le_of_ble_eq_true rfl) rfl ?_
    refine wa_iload_n C 3 23 dX6_part_22 rfl rfl ?_
    refine wa_if_ne C 37 26 dX6_part_23 rfl rfl (fun c18 => ?_) (fun c18 => ?_)
    · replace hf := ite_f hf c18
      refine wa_lv (lv' := [(0, .ref (a 0)), (3, .int q16.1)]) [0, 3] rfl ?_
      exact w_X6_part_J37 hrm hrec C E q16.1 q16.2.1 q16.2.2 hf
    · replace hf := ite_t hf c18
      refine wa_aload_n C 0 27 dX6_part_26 rfl rfl ?_
      refine wa_get C 30 0 0 8 dX6_part_27 rfl iX6 q169 rfl (Nat.le_of_ble_eq_true rfl) rfl rfl rfl ?_
      refine wa_bipush (v := 41) C 32 dX6_part_30 rfl rfl ?_
      refine wa_icmp_eq C 37 35 dX6_part_32 rfl rfl (fun c20 => ?_) (fun c20 => ?_)
      · replace hf := ite_t hf c20
        refine wa_lv (lv' := [(0, .ref (a 0)), (3, .int q16.1)]) [0, 3] rfl ?_
        exact w_X6_part_J37 hrm hrec C E q16.1 q16.2.1 q16.2.2 hf
      · replace hf := ite_f hf c20
        refine wa_iconst (v := 1) C 36 dX6_part_35 rfl rfl ?_
        refine wa_istore_n (lv' := [(0, .ref (a 0)), (1, .ref (a0 0)), (2, .int p1), (3, .int (1 : Int32))]) C [1, 2, 3, 0] 37 dX6_part_36 rfl (Nat.le_of_ble_eq_true rfl) rfl ?_
        refine wa_lv (lv' := [(0, .ref (a 0)), (3, .int (1 : Int32))]) [0, 3] rfl ?_
        exact w_X6_part_J37 hrm hrec C E (1 : Int32) q16.2.1 q16.2.2 hf
theorem kv_X6_187 : KV RX6 187 yX6_part cX6_part 4 (some .int) 2 := KV.mk q891 q893 qs30 q2 q894 ⟨by decide, by decide, by decide +kernel⟩
def f_X6_product_J41 (rec : Ob → (Nat → Int32) → Ob → Nat → Int32 → Option (Int32 × Ob × Ob)) (k10 : Int32 → Int32 → Ob → Ob → Option (Int32 × Ob × Ob)) (nt : Nat) (l2 : Int32) (z1 : (Nat → Int32)) (l4 : Int32) (z0 : Ob) (z2 : Ob) : Option (Int32 × Ob × Ob) := bnd (z0.1 8) (fun x6 => (f_X6_next z0 z1 nt).bind (fun q7 => (f_X6_part rec q7 z1 z2 nt l2).bind (fun q9 => (f_X7_add q9.2.2 ((20000 : Int32) + x6)).bind (fun q11 => bnd (l4 + 1) (fun x13 => k10 q9.1 x13 q9.2.1 q11)))))
def f_X6_product_L10 (rec : Ob → (Nat → Int32) → Ob → Nat → Int32 → Option (Int32 × Ob × Ob)) (nt : Nat) (l2 : Int32) (z1 : (Nat → Int32)) : Nat → Int32 → Int32 → Ob → Ob → Option (Int32 × Ob × Ob)
  | 0, _, _, _, _ => none
  | n + 1, l3, l4, z0, z2 => (if (z0.1 5) ≤ l4 then some (l3, z0, z2) else (if l3 = 0 then (if (z0.1 8) = (42 : Int32) then f_X6_product_J41 rec (f_X6_product_L10 rec nt l2 z1 n) nt l2 z1 l4 z0 z2 else (if (z0.1 8) = (47 : Int32) then f_X6_product_J41 rec (f_X6_product_L10 rec nt l2 z1 n) nt l2 z1 l4 z0 z2 else some (l3, z0, z2))) else some (l3, z0, z2)))
def f_X6_product (rec : Ob → (Nat → Int32) → Ob → Nat → Int32 → Option (Int32 × Ob × Ob)) (v : Ob) (ut : (Nat → Int32)) (v0 : Ob) (nt : Nat) (p1 : Int32) : Option (Int32 × Ob × Ob) := (f_X6_part rec v ut v0 nt p1).bind (fun q1 => f_X6_product_L10 rec nt p1 ut FUEL q1.1 (0 : Int32) q1.2.1 q1.2.2)
set_option maxRecDepth 20000 in
theorem w_X6_product_J41 {p : Program} {l : Launch} {e : Env} {s : State} {m : MethodId} {args : Array Value} {below : List Frame} {meth : Method} {c : Code} {D : va_G} {A : Nat → Prop} {dT : Nat → ClassId} {a : Nat → Nat} {bt : Nat} {a0 : Nat → Nat} {h_village : Nat} {h_friends : Nat} {h_picks : Nat} {h_keeps : Nat} {aK aV : Nat → Nat} {nt : Nat} {res : Int32 × Ob × Ob} {l2 : Int32} {z1 : (Nat → Int32)} {rec : Ob → (Nat → Int32) → Ob → Nat → Int32 → Option (Int32 × Ob × Ob)} {rmE : Room} (hrm : rmE.cells = 0 ∧ rmE.slots = 0) (hrec : ∀ (a : Nat → Nat) (bt : Nat) (a0 : Nat → Nat) (h_village : Nat) (h_friends : Nat) (h_picks : Nat) (h_keeps : Nat) (v : Ob) (ut : (Nat → Int32)) (v0 : Ob) (nt : Nat) (p1 : Int32) (res9 : Int32 × Ob × Ob), rec v ut v0 nt p1 = some res9 → CEi aK aV l yX6_expr cX6_expr 5 (some .int) rmE D dT [.ref (a 0), .ref (a0 0), .int p1] ([wRd dT a h_village h_friends h_picks h_keeps bt v, [(bt, .inl (dT 2, nt, .inl ut))], wR dT a0 v0]) ([wRd dT a h_village h_friends h_picks h_keeps bt res9.2.1, [(bt, .inl (dT 2, nt, .inl ut))], wR dT a0 res9.2.2]) res9.1) (C : Cx p s m args meth c cX6_product 6 RX6 (some .int) D A dT) (E : AMB aK aV A s s.heap) {k10 : Int32 → Int32 → Ob → Ob → Option (Int32 × Ob × Ob)} (hk10 : ∀ (l3 : Int32) (l4 : Int32) (z0 : Ob) (z2 : Ob), k10 l3 l4 z0 z2 = some res → WA p l e ({ frames := rmE.frames + 9, cells := 0, slots := 0, locals := rmE.locals + 360 } : Room) s m args below meth c (MQ below (QI D dT A ([wRd dT a h_village h_friends h_picks h_keeps bt res.2.1, [(bt, .inl (dT 2, nt, .inl z1))], wR dT a0 res.2.2]) res.1) args s 0 0 A) D A 0 0 6 10 ([wRd dT a h_village h_friends h_picks h_keeps bt z0, [(bt, .inl (dT 2, nt, .inl z1))], wR dT a0 z2]) [(0, .ref (a 0)), (1, .ref (a0 0)), (2, .int l2), (3, .int l3), (4, .int l4)] []) : ∀ (l4 : Int32) (z0 : Ob) (z2 : Ob), f_X6_product_J41 rec k10 nt l2 z1 l4 z0 z2 = some res → WA p l e ({ frames := rmE.frames + 9, cells := 0, slots := 0, locals := rmE.locals + 360 } : Room) s m args below meth c (MQ below (QI D dT A ([wRd dT a h_village h_friends h_picks h_keeps bt res.2.1, [(bt, .inl (dT 2, nt, .inl z1))], wR dT a0 res.2.2]) res.1) args s 0 0 A) D A 0 0 6 41 ([wRd dT a h_village h_friends h_picks h_keeps bt z0, [(bt, .inl (dT 2, nt, .inl z1))], wR dT a0 z2]) [(0, .ref (a 0)), (1, .ref (a0 0)), (2, .int l2), (4, .int l4)] [] := by
  intro l4 z0 z2 hf
  unfold f_X6_product_J41 at hf
  refine wa_aload_n C 0 42 dX6_product_41 rfl rfl ?_
  refine wa_get C 45 0 0 8 dX6_product_42 rfl iX6 q169 rfl (Nat.le_of_ble_eq_true rfl) rfl rfl rfl ?_
  obtain ⟨x6, ex6, hf⟩ := bnd_ex hf
  refine wa_topi ex6 ?_
  refine wa_istore (lv' := [(0, .ref (a 0)), (1, .ref (a0 0)), (2, .int l2), (4, .int l4), (5, .int x6)]) C [1, 2, 3, 4, 0] 47 dX6_product_45 rfl (Nat.le_of_ble_eq_true rfl) rfl ?_
  refine wa_aload_n C 0 48 dX6_product_47 rfl rfl ?_
  obtain ⟨q7, hq7, hf⟩ := bind_ex hf
  refine we_callVv (ws' := [wRd dT a h_village h_friends h_picks h_keeps bt q7, [(bt, .inl (dT 2, nt, .inl z1))], wR dT a0 z2]) (As := []) C E 51 dX6_product_48 rfl kv_X6_72 (c_X6_next hq7) ⟨rfl, rfl⟩ ⟨by show 6 + 1 ≤ rmE.frames + 9; omega, by show 8 + (2 + 11) + 126 ≤ rmE.locals + 360; omega⟩ (rv_obj (ci := 6) C 0 0 rfl rfl rfl) [0, 1] [2] [1, 2, 0] rfl rfl rfl rfl (by decide) rfl rfl rfl rfl ⟨Nat.zero_le _, Nat.zero_le _⟩ (Nat.le_of_ble_eq_true rfl) ?_
  refine wa_aload_n C 0 52 dX6_product_51 rfl rfl ?_
  refine wa_aload_n C 1 53 dX6_product_52 rfl rfl ?_
  refine wa_iload_n C 2 54 dX6_product_53 rfl rfl ?_
  obtain ⟨q9, hq9, hf⟩ := bind_ex hf
  refine we_callVi (ws' := [wRd dT a h_village h_friends h_picks h_keeps bt q9.2.1, [(bt, .inl (dT 2, nt, .inl z1))], wR dT a0 q9.2.2]) (As := [.ref (a0 0), .int l2]) C E 57 dX6_product_54 rfl kv_X6_187 (c_X6_part hrm hrec hq9) ⟨rfl, rfl⟩ ⟨by show rmE.frames + 8 + 1 ≤ rmE.frames + 9; omega, by show 8 + (4 + 11) + (rmE.locals + 300) ≤ rmE.locals + 360; omega⟩ (rv_obj (ci := 6) C 0 0 rfl rfl rfl) [0, 1, 2] [] [0, 1, 2] rfl rfl rfl rfl (by decide) rfl rfl rfl rfl ⟨Nat.zero_le _, Nat.zero_le _⟩ (Nat.le_of_ble_eq_true rfl) ?_
  refine wa_istore_n (lv' := [(0, .ref (a 0)), (1, .ref (a0 0)), (2, .int l2), (3, .int q9.1), (4, .int l4), (5, .int x6)]) C [1, 2, 3, 0, 4, 5] 58 dX6_product_57 rfl (Nat.le_of_ble_eq_true rfl) rfl ?_
  refine wa_aload_n C 1 59 dX6_product_58 rfl rfl ?_
  refine wa_sipush (v := 20000) C 62 dX6_product_59 rfl rfl ?_
  refine wa_iload C 5 64 dX6_product_62 rfl rfl ?_
  refine wa_iadd C 65 dX6_product_64 rfl ?_
  obtain ⟨q11, hq11, hf⟩ := bind_ex hf
  refine wa_callVv (b1 := 2) (q1 := 0) (ci := 7) (ws' := [wRd dT a h_village h_friends h_picks h_keeps bt q9.2.1, [(bt, .inl (dT 2, nt, .inl z1))], wR dT a0 q11]) (As := [.int ((20000 : Int32) + x6)]) C 68 dX6_product_65 rfl kv_X6_172 (c_X7_add hq11) ⟨rfl, rfl⟩ ⟨by show 0 + 1 ≤ rmE.frames + 9; omega, by show 8 + (2 + 11) + 0 ≤ rmE.locals + 360; omega⟩ rfl rfl rfl [2] [0, 1] [0, 1, 2] rfl rfl rfl rfl (by decide) rfl rfl rfl rfl ⟨Nat.zero_le _, Nat.zero_le _⟩ (Nat.le_of_ble_eq_true rfl) ?_
  obtain ⟨x13, ex13, hf⟩ := bnd_ex hf
  refine wa_iinc (v := x13) (lv' := [(0, .ref (a 0)), (1, .ref (a0 0)), (2, .int l2), (3, .int q9.1), (4, .int x13), (5, .int x6)]) C 4 [1, 2, 3, 4, 0, 5] 71 dX6_product_68 rfl rfl (by rw [ex13]; rfl) (Nat.le_of_ble_eq_true rfl) rfl ?_
  refine wa_goto C 10 dX6_product_71 rfl ?_
  refine wa_lv (lv' := [(0, .ref (a 0)), (1, .ref (a0 0)), (2, .int l2), (3, .int q9.1), (4, .int x13)]) [0, 1, 2, 3, 4] rfl ?_
  exact hk10 q9.1 x13 q9.2.1 q11 hf
set_option maxRecDepth 20000 in
theorem w_X6_product_L10 {p : Program} {l : Launch} {e : Env} {s : State} {m : MethodId} {args : Array Value} {below : List Frame} {meth : Method} {c : Code} {D : va_G} {A : Nat → Prop} {dT : Nat → ClassId} {a : Nat → Nat} {bt : Nat} {a0 : Nat → Nat} {h_village : Nat} {h_friends : Nat} {h_picks : Nat} {h_keeps : Nat} {aK aV : Nat → Nat} {nt : Nat} {res : Int32 × Ob × Ob} {l2 : Int32} {z1 : (Nat → Int32)} {rec : Ob → (Nat → Int32) → Ob → Nat → Int32 → Option (Int32 × Ob × Ob)} {rmE : Room} (hrm : rmE.cells = 0 ∧ rmE.slots = 0) (hrec : ∀ (a : Nat → Nat) (bt : Nat) (a0 : Nat → Nat) (h_village : Nat) (h_friends : Nat) (h_picks : Nat) (h_keeps : Nat) (v : Ob) (ut : (Nat → Int32)) (v0 : Ob) (nt : Nat) (p1 : Int32) (res9 : Int32 × Ob × Ob), rec v ut v0 nt p1 = some res9 → CEi aK aV l yX6_expr cX6_expr 5 (some .int) rmE D dT [.ref (a 0), .ref (a0 0), .int p1] ([wRd dT a h_village h_friends h_picks h_keeps bt v, [(bt, .inl (dT 2, nt, .inl ut))], wR dT a0 v0]) ([wRd dT a h_village h_friends h_picks h_keeps bt res9.2.1, [(bt, .inl (dT 2, nt, .inl ut))], wR dT a0 res9.2.2]) res9.1) (C : Cx p s m args meth c cX6_product 6 RX6 (some .int) D A dT) (E : AMB aK aV A s s.heap) : ∀ (n : Nat) (l3 : Int32) (l4 : Int32) (z0 : Ob) (z2 : Ob), f_X6_product_L10 rec nt l2 z1 n l3 l4 z0 z2 = some res → WA p l e ({ frames := rmE.frames + 9, cells := 0, slots := 0, locals := rmE.locals + 360 } : Room) s m args below meth c (MQ below (QI D dT A ([wRd dT a h_village h_friends h_picks h_keeps bt res.2.1, [(bt, .inl (dT 2, nt, .inl z1))], wR dT a0 res.2.2]) res.1) args s 0 0 A) D A 0 0 6 10 ([wRd dT a h_village h_friends h_picks h_keeps bt z0, [(bt, .inl (dT 2, nt, .inl z1))], wR dT a0 z2]) [(0, .ref (a 0)), (1, .ref (a0 0)), (2, .int l2), (3, .int l3), (4, .int l4)] [] := by
  intro n
  induction n with
  | zero => intro l3 l4 z0 z2 hf; cases hf
  | succ n ih =>
    intro l3 l4 z0 z2 hf
    unfold f_X6_product_L10 at hf
    refine wa_iload C 4 12 dX6_product_10 rfl rfl ?_
    refine wa_aload_n C 0 13 dX6_product_12 rfl rfl ?_
    refine wa_get C 16 0 0 5 dX6_product_13 rfl iX6 q166 rfl (Nat.le_of_ble_eq_true rfl) rfl rfl rfl ?_
    refine wa_icmp_ge C 74 19 dX6_product_16 rfl rfl (fun c3 => ?_) (fun c3 => ?_)
    · replace hf := ite_t hf c3
      refine wa_iload_n C 3 75 dX6_product_74 rfl rfl ?_
      cases hf
      exact wa_iret C dX6_product_75 rfl rfl
    · replace hf := ite_f hf c3
      refine wa_iload_n C 3 20 dX6_product_19 rfl rfl ?_
      refine wa_if_ne C 74 23 dX6_product_20 rfl rfl (fun c4 => ?_) (fun c4 => ?_)
      · replace hf := ite_f hf c4
        refine wa_iload_n C 3 75 dX6_product_74 rfl rfl ?_
        cases hf
        exact wa_iret C dX6_product_75 rfl rfl
      · replace hf := ite_t hf c4
        refine wa_aload_n C 0 24 dX6_product_23 rfl rfl ?_
        refine wa_get C 27 0 0 8 dX6_product_24 rfl iX6 q169 rfl (Nat.le_of_ble_eq_true rfl) rfl rfl rfl ?_
        refine wa_bipush (v := 42) C 29 dX6_product_27 rfl rfl ?_
        refine wa_icmp_eq C 41 32 dX6_product_29 rfl rfl (fun c5 => ?_) (fun c5 => ?_)
        · replace hf := ite_t hf c5
          refine wa_lv (lv' := [(0, .ref (a 0)), (1, .ref (a0 0)), (2, .int l2), (4, .int l4)]) [0, 1, 2, 4] rfl ?_
          exact w_X6_product_J41 hrm hrec C E ih l4 z0 z2 hf
        · replace hf := ite_f hf c5
          refine wa_aload_n C 0 33 dX6_product_32 rfl rfl ?_
          refine wa_get C 36 0 0 8 dX6_product_33 rfl iX6 q169 rfl (Nat.le_of_ble_eq_true rfl) rfl rfl rfl ?_
          refine wa_bipush (v := 47) C 38 dX6_product_36 rfl rfl ?_
          refine wa_icmp_ne C 74 41 dX6_product_38 rfl rfl (fun c14 => ?_) (fun c14 => ?_)
          · replace hf := ite_f hf c14
            refine wa_iload_n C 3 75 dX6_product_74 rfl rfl ?_
            cases hf
            exact wa_iret C dX6_product_75 rfl rfl
          · replace hf := ite_t hf c14
            refine wa_lv (lv' := [(0, .ref (a 0)), (1, .ref (a0 0)), (2, .int l2), (4, .int l4)]) [0, 1, 2, 4] rfl ?_
            exact w_X6_product_J41 hrm hrec C E ih l4 z0 z2 hf
set_option maxRecDepth 20000 in
theorem c_X6_product {l : Launch} {D : va_G} {dT : Nat → ClassId} {a : Nat → Nat} {bt : Nat} {a0 : Nat → Nat} {h_village : Nat} {h_friends : Nat} {h_picks : Nat} {h_keeps : Nat} {aK aV : Nat → Nat} {nt : Nat} {v : Ob} {ut : (Nat → Int32)} {v0 : Ob} {p1 : Int32} {rec : Ob → (Nat → Int32) → Ob → Nat → Int32 → Option (Int32 × Ob × Ob)} {rmE : Room} (hrm : rmE.cells = 0 ∧ rmE.slots = 0) (hrec : ∀ (a : Nat → Nat) (bt : Nat) (a0 : Nat → Nat) (h_village : Nat) (h_friends : Nat) (h_picks : Nat) (h_keeps : Nat) (v : Ob) (ut : (Nat → Int32)) (v0 : Ob) (nt : Nat) (p1 : Int32) (res9 : Int32 × Ob × Ob), rec v ut v0 nt p1 = some res9 → CEi aK aV l yX6_expr cX6_expr 5 (some .int) rmE D dT [.ref (a 0), .ref (a0 0), .int p1] ([wRd dT a h_village h_friends h_picks h_keeps bt v, [(bt, .inl (dT 2, nt, .inl ut))], wR dT a0 v0]) ([wRd dT a h_village h_friends h_picks h_keeps bt res9.2.1, [(bt, .inl (dT 2, nt, .inl ut))], wR dT a0 res9.2.2]) res9.1) {res : Int32 × Ob × Ob} (hf : f_X6_product rec v ut v0 nt p1 = some res) : CEi aK aV l yX6_product cX6_product 6 (some .int) ({ frames := rmE.frames + 9, cells := 0, slots := 0, locals := rmE.locals + 360 } : Room) D dT [.ref (a 0), .ref (a0 0), .int p1] ([wRd dT a h_village h_friends h_picks h_keeps bt v, [(bt, .inl (dT 2, nt, .inl ut))], wR dT a0 v0]) ([wRd dT a h_village h_friends h_picks h_keeps bt res.2.1, [(bt, .inl (dT 2, nt, .inl ut))], wR dT a0 res.2.2]) res.1 := by
  refine CEi.of (by decide) (Nat.le_of_ble_eq_true rfl) rfl ?_
  intro p e s m args below meth c A C E
  unfold f_X6_product at hf
  refine wa_aload_n C 0 1 dX6_product_0 rfl rfl ?_
  refine wa_aload_n C 1 2 dX6_product_1 rfl rfl ?_
  refine wa_iload_n C 2 3 dX6_product_2 rfl rfl ?_
  obtain ⟨q1, hq1, hf⟩ := bind_ex hf
  refine we_callVi (ws' := [wRd dT a h_village h_friends h_picks h_keeps bt q1.2.1, [(bt, .inl (dT 2, nt, .inl ut))], wR dT a0 q1.2.2]) (As := [.ref (a0 0), .int p1]) C E 6 dX6_product_3 rfl kv_X6_187 (c_X6_part hrm hrec hq1) ⟨rfl, rfl⟩ ⟨by show rmE.frames + 8 + 1 ≤ rmE.frames + 9; omega, by show 8 + (4 + 11) + (rmE.locals + 300) ≤ rmE.locals + 360; omega⟩ (rv_obj (ci := 6) C 0 0 rfl rfl rfl) [0, 1, 2] [] [0, 1, 2] rfl rfl rfl rfl (by decide) rfl rfl rfl rfl ⟨Nat.zero_le _, Nat.zero_le _⟩ (Nat.le_of_ble_eq_true rfl) ?_
  refine wa_istore_n (lv' := [(0, .ref (a 0)), (1, .ref (a0 0)), (2, .int p1), (3, .int q1.1)]) C [1, 2, 3, 0] 7 dX6_product_6 rfl (Nat.le_of_ble_eq_true rfl) rfl ?_
  refine wa_iconst (v := 0) C 8 dX6_product_7 rfl rfl ?_
  refine wa_istore (lv' := [(0, .ref (a 0)), (1, .ref (a0 0)), (2, .int p1), (3, .int q1.1), (4, .int (0 : Int32))]) C [1, 2, 3, 4, 0] 10 dX6_product_8 rfl (Nat.le_of_ble_eq_true rfl) rfl ?_
  exact w_X6_product_L10 hrm hrec C E FUEL q1.1 (0 : Int32) q1.2.1 q1.2.2 hf
theorem kv_X6_184 : KV RX6 184 yX6_product cX6_product 6 (some .int) 2 := KV.mk q887 q889 qs29 q2 q890 ⟨by decide, by decide, by decide +kernel⟩
def f_X6_sum_J41 (rec : Ob → (Nat → Int32) → Ob → Nat → Int32 → Option (Int32 × Ob × Ob)) (k10 : Int32 → Int32 → Ob → Ob → Option (Int32 × Ob × Ob)) (nt : Nat) (l2 : Int32) (z1 : (Nat → Int32)) (l4 : Int32) (z0 : Ob) (z2 : Ob) : Option (Int32 × Ob × Ob) := bnd (z0.1 8) (fun x6 => (f_X6_next z0 z1 nt).bind (fun q7 => (f_X6_product rec q7 z1 z2 nt l2).bind (fun q9 => (f_X7_add q9.2.2 ((20000 : Int32) + x6)).bind (fun q11 => bnd (l4 + 1) (fun x13 => k10 q9.1 x13 q9.2.1 q11)))))
def f_X6_sum_L10 (rec : Ob → (Nat → Int32) → Ob → Nat → Int32 → Option (Int32 × Ob × Ob)) (nt : Nat) (l2 : Int32) (z1 : (Nat → Int32)) : Nat → Int32 → Int32 → Ob → Ob → Option (Int32 × Ob × Ob)
  | 0, _, _, _, _ => none
  | n + 1, l3, l4, z0, z2 => (if (z0.1 5) ≤ l4 then some (l3, z0, z2) else (if l3 = 0 then (if (z0.1 8) = (43 : Int32) then f_X6_sum_J41 rec (f_X6_sum_L10 rec nt l2 z1 n) nt l2 z1 l4 z0 z2 else (if (z0.1 8) = (45 : Int32) then f_X6_sum_J41 rec (f_X6_sum_L10 rec nt l2 z1 n) nt l2 z1 l4 z0 z2 else some (l3, z0, z2))) else some (l3, z0, z2)))
def f_X6_sum (rec : Ob → (Nat → Int32) → Ob → Nat → Int32 → Option (Int32 × Ob × Ob)) (v : Ob) (ut : (Nat → Int32)) (v0 : Ob) (nt : Nat) (p1 : Int32) : Option (Int32 × Ob × Ob) := (f_X6_product rec v ut v0 nt p1).bind (fun q1 => f_X6_sum_L10 rec nt p1 ut FUEL q1.1 (0 : Int32) q1.2.1 q1.2.2)
set_option maxRecDepth 20000 in
theorem w_X6_sum_J41 {p : Program} {l : Launch} {e : Env} {s : State} {m : MethodId} {args : Array Value} {below : List Frame} {meth : Method} {c : Code} {D : va_G} {A : Nat → Prop} {dT : Nat → ClassId} {a : Nat → Nat} {bt : Nat} {a0 : Nat → Nat} {h_village : Nat} {h_friends : Nat} {h_picks : Nat} {h_keeps : Nat} {aK aV : Nat → Nat} {nt : Nat} {res : Int32 × Ob × Ob} {l2 : Int32} {z1 : (Nat → Int32)} {rec : Ob → (Nat → Int32) → Ob → Nat → Int32 → Option (Int32 × Ob × Ob)} {rmE : Room} (hrm : rmE.cells = 0 ∧ rmE.slots = 0) (hrec : ∀ (a : Nat → Nat) (bt : Nat) (a0 : Nat → Nat) (h_village : Nat) (h_friends : Nat) (h_picks : Nat) (h_keeps : Nat) (v : Ob) (ut : (Nat → Int32)) (v0 : Ob) (nt : Nat) (p1 : Int32) (res9 : Int32 × Ob × Ob), rec v ut v0 nt p1 = some res9 → CEi aK aV l yX6_expr cX6_expr 5 (some .int) rmE D dT [.ref (a 0), .ref (a0 0), .int p1] ([wRd dT a h_village h_friends h_picks h_keeps bt v, [(bt, .inl (dT 2, nt, .inl ut))], wR dT a0 v0]) ([wRd dT a h_village h_friends h_picks h_keeps bt res9.2.1, [(bt, .inl (dT 2, nt, .inl ut))], wR dT a0 res9.2.2]) res9.1) (C : Cx p s m args meth c cX6_sum 6 RX6 (some .int) D A dT) (E : AMB aK aV A s s.heap) {k10 : Int32 → Int32 → Ob → Ob → Option (Int32 × Ob × Ob)} (hk10 : ∀ (l3 : Int32) (l4 : Int32) (z0 : Ob) (z2 : Ob), k10 l3 l4 z0 z2 = some res → WA p l e ({ frames := rmE.frames + 10, cells := 0, slots := 0, locals := rmE.locals + 420 } : Room) s m args below meth c (MQ below (QI D dT A ([wRd dT a h_village h_friends h_picks h_keeps bt res.2.1, [(bt, .inl (dT 2, nt, .inl z1))], wR dT a0 res.2.2]) res.1) args s 0 0 A) D A 0 0 6 10 ([wRd dT a h_village h_friends h_picks h_keeps bt z0, [(bt, .inl (dT 2, nt, .inl z1))], wR dT a0 z2]) [(0, .ref (a 0)), (1, .ref (a0 0)), (2, .int l2), (3, .int l3), (4, .int l4)] []) : ∀ (l4 : Int32) (z0 : Ob) (z2 : Ob), f_X6_sum_J41 rec k10 nt l2 z1 l4 z0 z2 = some res → WA p l e ({ frames := rmE.frames + 10, cells := 0, slots := 0, locals := rmE.locals + 420 } : Room) s m args below meth c (MQ below (QI D dT A ([wRd dT a h_village h_friends h_picks h_keeps bt res.2.1, [(bt, .inl (dT 2, nt, .inl z1))], wR dT a0 res.2.2]) res.1) args s 0 0 A) D A 0 0 6 41 ([wRd dT a h_village h_friends h_picks h_keeps bt z0, [(bt, .inl (dT 2, nt, .inl z1))], wR dT a0 z2]) [(0, .ref (a 0)), (1, .ref (a0 0)), (2, .int l2), (4, .int l4)] [] := by
  intro l4 z0 z2 hf
  unfold f_X6_sum_J41 at hf
  refine wa_aload_n C 0 42 dX6_sum_41 rfl rfl ?_
  refine wa_get C 45 0 0 8 dX6_sum_42 rfl iX6 q169 rfl (Nat.le_of_ble_eq_true rfl) rfl rfl rfl ?_
  obtain ⟨x6, ex6, hf⟩ := bnd_ex hf
  refine wa_topi ex6 ?_
  refine wa_istore (lv' := [(0, .ref (a 0)), (1, .ref (a0 0)), (2, .int l2), (4, .int l4), (5, .int x6)]) C [1, 2, 3, 4, 0] 47 dX6_sum_45 rfl (Nat.le_of_ble_eq_true rfl) rfl ?_
  refine wa_aload_n C 0 48 dX6_sum_47 rfl rfl ?_
  obtain ⟨q7, hq7, hf⟩ := bind_ex hf
  refine we_callVv (ws' := [wRd dT a h_village h_friends h_picks h_keeps bt q7, [(bt, .inl (dT 2, nt, .inl z1))], wR dT a0 z2]) (As := []) C E 51 dX6_sum_48 rfl kv_X6_72 (c_X6_next hq7) ⟨rfl, rfl⟩ ⟨by show 6 + 1 ≤ rmE.frames + 10; omega, by show 8 + (2 + 11) + 126 ≤ rmE.locals + 420; omega⟩ (rv_obj (ci := 6) C 0 0 rfl rfl rfl) [0, 1] [2] [1, 2, 0] rfl rfl rfl rfl (by decide) rfl rfl rfl rfl ⟨Nat.zero_le _, Nat.zero_le _⟩ (Nat.le_of_ble_eq_true rfl) ?_
  refine wa_aload_n C 0 52 dX6_sum_51 rfl rfl ?_
  refine wa_aload_n C 1 53 dX6_sum_52 rfl rfl ?_
  refine wa_iload_n C 2 54 dX6_sum_53 rfl rfl ?_
  obtain ⟨q9, hq9, hf⟩ := bind_ex hf
  refine we_callVi (ws' := [wRd dT a h_village h_friends h_picks h_keeps bt q9.2.1, [(bt, .inl (dT 2, nt, .inl z1))], wR dT a0 q9.2.2]) (As := [.ref (a0 0), .int l2]) C E 57 dX6_sum_54 rfl kv_X6_184 (c_X6_product hrm hrec hq9) ⟨rfl, rfl⟩ ⟨by show rmE.frames + 9 + 1 ≤ rmE.frames + 10; omega, by show 8 + (6 + 11) + (rmE.locals + 360) ≤ rmE.locals + 420; omega⟩ (rv_obj (ci := 6) C 0 0 rfl rfl rfl) [0, 1, 2] [] [0, 1, 2] rfl rfl rfl rfl (by decide) rfl rfl rfl rfl ⟨Nat.zero_le _, Nat.zero_le _⟩ (Nat.le_of_ble_eq_true rfl) ?_
  refine wa_istore_n (lv' := [(0, .ref (a 0)), (1, .ref (a0 0)), (2, .int l2), (3, .int q9.1), (4, .int l4), (5, .int x6)]) C [1, 2, 3, 0, 4, 5] 58 dX6_sum_57 rfl (Nat.le_of_ble_eq_true rfl) rfl ?_
  refine wa_aload_n C 1 59 dX6_sum_58 rfl rfl ?_
  refine wa_sipush (v := 20000) C 62 dX6_sum_59 rfl rfl ?_
  refine wa_iload C 5 64 dX6_sum_62 rfl rfl ?_
  refine wa_iadd C 65 dX6_sum_64 rfl ?_
  obtain ⟨q11, hq11, hf⟩ := bind_ex hf
  refine wa_callVv (b1 := 2) (q1 := 0) (ci := 7) (ws' := [wRd dT a h_village h_friends h_picks h_keeps bt q9.2.1, [(bt, .inl (dT 2, nt, .inl z1))], wR dT a0 q11]) (As := [.int ((20000 : Int32) + x6)]) C 68 dX6_sum_65 rfl kv_X6_172 (c_X7_add hq11) ⟨rfl, rfl⟩ ⟨by show 0 + 1 ≤ rmE.frames + 10; omega, by show 8 + (2 + 11) + 0 ≤ rmE.locals + 420; omega⟩ rfl rfl rfl [2] [0, 1] [0, 1, 2] rfl rfl rfl rfl (by decide) rfl rfl rfl rfl ⟨Nat.zero_le _, Nat.zero_le _⟩ (Nat.le_of_ble_eq_true rfl) ?_
  obtain ⟨x13, ex13, hf⟩ := bnd_ex hf
  refine wa_iinc (v := x13) (lv' := [(0, .ref (a 0)), (1, .ref (a0 0)), (2, .int l2), (3, .int q9.1), (4, .int x13), (5, .int x6)]) C 4 [1, 2, 3, 4, 0, 5] 71 dX6_sum_68 rfl rfl (by rw [ex13]; rfl) (Nat.le_of_ble_eq_true rfl) rfl ?_
  refine wa_goto C 10 dX6_sum_71 rfl ?_
  refine wa_lv (lv' := [(0, .ref (a 0)), (1, .ref (a0 0)), (2, .int l2), (3, .int q9.1), (4, .int x13)]) [0, 1, 2, 3, 4] rfl ?_
  exact hk10 q9.1 x13 q9.2.1 q11 hf
set_option maxRecDepth 20000 in
theorem w_X6_sum_L10 {p : Program} {l : Launch} {e : Env} {s : State} {m : MethodId} {args : Array Value} {below : List Frame} {meth : Method} {c : Code} {D : va_G} {A : Nat → Prop} {dT : Nat → ClassId} {a : Nat → Nat} {bt : Nat} {a0 : Nat → Nat} {h_village : Nat} {h_friends : Nat} {h_picks : Nat} {h_keeps : Nat} {aK aV : Nat → Nat} {nt : Nat} {res : Int32 × Ob × Ob} {l2 : Int32} {z1 : (Nat → Int32)} {rec : Ob → (Nat → Int32) → Ob → Nat → Int32 → Option (Int32 × Ob × Ob)} {rmE : Room} (hrm : rmE.cells = 0 ∧ rmE.slots = 0) (hrec : ∀ (a : Nat → Nat) (bt : Nat) (a0 : Nat → Nat) (h_village : Nat) (h_friends : Nat) (h_picks : Nat) (h_keeps : Nat) (v : Ob) (ut : (Nat → Int32)) (v0 : Ob) (nt : Nat) (p1 : Int32) (res9 : Int32 × Ob × Ob), rec v ut v0 nt p1 = some res9 → CEi aK aV l yX6_expr cX6_expr 5 (some .int) rmE D dT [.ref (a 0), .ref (a0 0), .int p1] ([wRd dT a h_village h_friends h_picks h_keeps bt v, [(bt, .inl (dT 2, nt, .inl ut))], wR dT a0 v0]) ([wRd dT a h_village h_friends h_picks h_keeps bt res9.2.1, [(bt, .inl (dT 2, nt, .inl ut))], wR dT a0 res9.2.2]) res9.1) (C : Cx p s m args meth c cX6_sum 6 RX6 (some .int) D A dT) (E : AMB aK aV A s s.heap) : ∀ (n : Nat) (l3 : Int32) (l4 : Int32) (z0 : Ob) (z2 : Ob), f_X6_sum_L10 rec nt l2 z1 n l3 l4 z0 z2 = some res → WA p l e ({ frames := rmE.frames + 10, cells := 0, slots := 0, locals := rmE.locals + 420 } : Room) s m args below meth c (MQ below (QI D dT A ([wRd dT a h_village h_friends h_picks h_keeps bt res.2.1, [(bt, .inl (dT 2, nt, .inl z1))], wR dT a0 res.2.2]) res.1) args s 0 0 A) D A 0 0 6 10 ([wRd dT a h_village h_friends h_picks h_keeps bt z0, [(bt, .inl (dT 2, nt, .inl z1))], wR dT a0 z2]) [(0, .ref (a 0)), (1, .ref (a0 0)), (2, .int l2), (3, .int l3), (4, .int l4)] [] := by
  intro n
  induction n with
  | zero => intro l3 l4 z0 z2 hf; cases hf
  | succ n ih =>
    intro l3 l4 z0 z2 hf
    unfold f_X6_sum_L10 at hf
    refine wa_iload C 4 12 dX6_sum_10 rfl rfl ?_
    refine wa_aload_n C 0 13 dX6_sum_12 rfl rfl ?_
    refine wa_get C 16 0 0 5 dX6_sum_13 rfl iX6 q166 rfl (Nat.le_of_ble_eq_true rfl) rfl rfl rfl ?_
    refine wa_icmp_ge C 74 19 dX6_sum_16 rfl rfl (fun c3 => ?_) (fun c3 => ?_)
    · replace hf := ite_t hf c3
      refine wa_iload_n C 3 75 dX6_sum_74 rfl rfl ?_
      cases hf
      exact wa_iret C dX6_sum_75 rfl rfl
    · replace hf := ite_f hf c3
      refine wa_iload_n C 3 20 dX6_sum_19 rfl rfl ?_
      refine wa_if_ne C 74 23 dX6_sum_20 rfl rfl (fun c4 => ?_) (fun c4 => ?_)
      · replace hf := ite_f hf c4
        refine wa_iload_n C 3 75 dX6_sum_74 rfl rfl ?_
        cases hf
        exact wa_iret C dX6_sum_75 rfl rfl
      · replace hf := ite_t hf c4
        refine wa_aload_n C 0 24 dX6_sum_23 rfl rfl ?_
        refine wa_get C 27 0 0 8 dX6_sum_24 rfl iX6 q169 rfl (Nat.le_of_ble_eq_true rfl) rfl rfl rfl ?_
        refine wa_bipush (v := 43) C 29 dX6_sum_27 rfl rfl ?_
        refine wa_icmp_eq C 41 32 dX6_sum_29 rfl rfl (fun c5 => ?_) (fun c5 => ?_)
        · replace hf := ite_t hf c5
          refine wa_lv (lv' := [(0, .ref (a 0)), (1, .ref (a0 0)), (2, .int l2), (4, .int l4)]) [0, 1, 2, 4] rfl ?_
          exact w_X6_sum_J41 hrm hrec C E ih l4 z0 z2 hf
        · replace hf := ite_f hf c5
          refine wa_aload_n C 0 33 dX6_sum_32 rfl rfl ?_
          refine wa_get C 36 0 0 8 dX6_sum_33 rfl iX6 q169 rfl (Nat.le_of_ble_eq_true rfl) rfl rfl rfl ?_
          refine wa_bipush (v := 45) C 38 dX6_sum_36 rfl rfl ?_
          refine wa_icmp_ne C 74 41 dX6_sum_38 rfl rfl (fun c14 => ?_) (fun c14 => ?_)
          · replace hf := ite_f hf c14
            refine wa_iload_n C 3 75 dX6_sum_74 rfl rfl ?_
            cases hf
            exact wa_iret C dX6_sum_75 rfl rfl
          · replace hf := ite_t hf c14
            refine wa_lv (lv' := [(0, .ref (a 0)), (1, .ref (a0 0)), (2, .int l2), (4, .int l4)]) [0, 1, 2, 4] rfl ?_
            exact w_X6_sum_J41 hrm hrec C E ih l4 z0 z2 hf
set_option maxRecDepth 20000 in
theorem c_X6_sum {l : Launch} {D : va_G} {dT : Nat → ClassId} {a : Nat → Nat} {bt : Nat} {a0 : Nat → Nat} {h_village : Nat} {h_friends : Nat} {h_picks : Nat} {h_keeps : Nat} {aK aV : Nat → Nat} {nt : Nat} {v : Ob} {ut : (Nat → Int32)} {v0 : Ob} {p1 : Int32} {rec : Ob → (Nat → Int32) → Ob → Nat → Int32 → Option (Int32 × Ob × Ob)} {rmE : Room} (hrm : rmE.cells = 0 ∧ rmE.slots = 0) (hrec : ∀ (a : Nat → Nat) (bt : Nat) (a0 : Nat → Nat) (h_village : Nat) (h_friends : Nat) (h_picks : Nat) (h_keeps : Nat) (v : Ob) (ut : (Nat → Int32)) (v0 : Ob) (nt : Nat) (p1 : Int32) (res9 : Int32 × Ob × Ob), rec v ut v0 nt p1 = some res9 → CEi aK aV l yX6_expr cX6_expr 5 (some .int) rmE D dT [.ref (a 0), .ref (a0 0), .int p1] ([wRd dT a h_village h_friends h_picks h_keeps bt v, [(bt, .inl (dT 2, nt, .inl ut))], wR dT a0 v0]) ([wRd dT a h_village h_friends h_picks h_keeps bt res9.2.1, [(bt, .inl (dT 2, nt, .inl ut))], wR dT a0 res9.2.2]) res9.1) {res : Int32 × Ob × Ob} (hf : f_X6_sum rec v ut v0 nt p1 = some res) : CEi aK aV l yX6_sum cX6_sum 6 (some .int) ({ frames := rmE.frames + 10, cells := 0, slots := 0, locals := rmE.locals + 420 } : Room) D dT [.ref (a 0), .ref (a0 0), .int p1] ([wRd dT a h_village h_friends h_picks h_keeps bt v, [(bt, .inl (dT 2, nt, .inl ut))], wR dT a0 v0]) ([wRd dT a h_village h_friends h_picks h_keeps bt res.2.1, [(bt, .inl (dT 2, nt, .inl ut))], wR dT a0 res.2.2]) res.1 := by
  refine CEi.of (by decide) (Nat.le_of_ble_eq_true rfl) rfl ?_
  intro p e s m args below meth c A C E
  unfold f_X6_sum at hf
  refine wa_aload_n C 0 1 dX6_sum_0 rfl rfl ?_
  refine wa_aload_n C 1 2 dX6_sum_1 rfl rfl ?_
  refine wa_iload_n C 2 3 dX6_sum_2 rfl rfl ?_
  obtain ⟨q1, hq1, hf⟩ := bind_ex hf
  refine we_callVi (ws' := [wRd dT a h_village h_friends h_picks h_keeps bt q1.2.1, [(bt, .inl (dT 2, nt, .inl ut))], wR dT a0 q1.2.2]) (As := [.ref (a0 0), .int p1]) C E 6 dX6_sum_3 rfl kv_X6_184 (c_X6_product hrm hrec hq1) ⟨rfl, rfl⟩ ⟨by show rmE.frames + 9 + 1 ≤ rmE.frames + 10; omega, by show 8 + (6 + 11) + (rmE.locals + 360) ≤ rmE.locals + 420; omega⟩ (rv_obj (ci := 6) C 0 0 rfl rfl rfl) [0, 1, 2] [] [0, 1, 2] rfl rfl rfl rfl (by decide) rfl rfl rfl rfl ⟨Nat.zero_le _, Nat.zero_le _⟩ (Nat.le_of_ble_eq_true rfl) ?_
  refine wa_istore_n (lv' := [(0, .ref (a 0)), (1, .ref (a0 0)), (2, .int p1), (3, .int q1.1)]) C [1, 2, 3, 0] 7 dX6_sum_6 rfl (Nat.le_of_ble_eq_true rfl) rfl ?_
  refine wa_iconst (v := 0) C 8 dX6_sum_7 rfl rfl ?_
  refine wa_istore (lv' := [(0, .ref (a 0)), (1, .ref (a0 0)), (2, .int p1), (3, .int q1.1), (4, .int (0 : Int32))]) C [1, 2, 3, 4, 0] 10 dX6_sum_8 rfl (Nat.le_of_ble_eq_true rfl) rfl ?_
  exact w_X6_sum_L10 hrm hrec C E FUEL q1.1 (0 : Int32) q1.2.1 q1.2.2 hf
theorem kv_X6_181 : KV RX6 181 yX6_sum cX6_sum 6 (some .int) 2 := KV.mk q883 q885 qs28 q2 q886 ⟨by decide, by decide, by decide +kernel⟩
def f_X6_notPart_L106 (rec : Ob → (Nat → Int32) → Ob → Nat → Int32 → Option (Int32 × Ob × Ob)) (nt : Nat) (l3 : Int32) (l4 : Int32) (z1 : (Nat → Int32)) : Nat → Int32 → Ob → Ob → Option (Int32 × Ob × Ob)
  | 0, _, _, _ => none
  | n + 1, l5, z0, z2 => (if l3 ≤ l5 then some (l4, z0, z2) else (f_X7_add z2 (20033 : Int32)).bind (fun q6 => bnd (l5 + 1) (fun x8 => f_X6_notPart_L106 rec nt l3 l4 z1 n x8 z0 q6)))
def f_X6_notPart_J75 (rec : Ob → (Nat → Int32) → Ob → Nat → Int32 → Option (Int32 × Ob × Ob)) (nt : Nat) (z1 : (Nat → Int32)) (l2 : Int32) (l3 : Int32) (z0 : Ob) (z2 : Ob) : Option (Int32 × Ob × Ob) := bnd (z0.1 8) (fun x10 => (f_X6_next z0 z1 nt).bind (fun q11 => (f_X6_sum rec q11 z1 z2 nt l2).bind (fun q13 => (f_X7_add q13.2.2 ((20000 : Int32) + x10)).bind (fun q15 => f_X6_notPart_L106 rec nt l3 q13.1 z1 FUEL (0 : Int32) q13.2.1 q15))))
def f_X6_notPart_J44 (rec : Ob → (Nat → Int32) → Ob → Nat → Int32 → Option (Int32 × Ob × Ob)) (nt : Nat) (z1 : (Nat → Int32)) (l2 : Int32) (l3 : Int32) (z0 : Ob) (z2 : Ob) : Option (Int32 × Ob × Ob) := (f_X6_sum rec z0 z1 z2 nt l2).bind (fun q2 => (if q2.1 = 0 then (if (q2.2.1.1 8) = (60 : Int32) then f_X6_notPart_J75 rec nt z1 l2 l3 q2.2.1 q2.2.2 else (if (q2.2.1.1 8) = (61 : Int32) then f_X6_notPart_J75 rec nt z1 l2 l3 q2.2.1 q2.2.2 else f_X6_notPart_L106 rec nt l3 q2.1 z1 FUEL (0 : Int32) q2.2.1 q2.2.2)) else f_X6_notPart_L106 rec nt l3 q2.1 z1 FUEL (0 : Int32) q2.2.1 q2.2.2))
def f_X6_notPart_L5 (rec : Ob → (Nat → Int32) → Ob → Nat → Int32 → Option (Int32 × Ob × Ob)) (nt : Nat) (l2 : Int32) (z1 : (Nat → Int32)) : Nat → Int32 → Int32 → Ob → Ob → Option (Int32 × Ob × Ob)
  | 0, _, _, _, _ => none
  | n + 1, l3, l4, z0, z2 => (if (z0.1 5) ≤ l4 then f_X6_notPart_J44 rec nt z1 l2 l3 z0 z2 else (f_X6_isWord z0 z1 nt 6).bind (fun q18 => (if q18 = 0 then f_X6_notPart_J44 rec nt z1 l2 l3 z0 z2 else (if l3 < (6 : Int32) then bnd (l3 + 1) (fun x22 => (f_X6_next z0 z1 nt).bind (fun q23 => bnd (l4 + 1) (fun x25 => f_X6_notPart_L5 rec nt l2 z1 n x22 x25 q23 z2))) else some ((2 : Int32), z0, z2)))))
def f_X6_notPart (rec : Ob → (Nat → Int32) → Ob → Nat → Int32 → Option (Int32 × Ob × Ob)) (v : Ob) (ut : (Nat → Int32)) (v0 : Ob) (nt : Nat) (p1 : Int32) : Option (Int32 × Ob × Ob) := f_X6_notPart_L5 rec nt p1 ut FUEL (0 : Int32) (0 : Int32) v v0
set_option maxRecDepth 20000 in
theorem w_X6_notPart_L106 {p : Program} {l : Launch} {e : Env} {s : State} {m : MethodId} {args : Array Value} {below : List Frame} {meth : Method} {c : Code} {D : va_G} {A : Nat → Prop} {dT : Nat → ClassId} {a : Nat → Nat} {bt : Nat} {a0 : Nat → Nat} {h_village : Nat} {h_friends : Nat} {h_picks : Nat} {h_keeps : Nat} {aK aV : Nat → Nat} {nt : Nat} {res : Int32 × Ob × Ob} {l3 : Int32} {l4 : Int32} {z1 : (Nat → Int32)} {rec : Ob → (Nat → Int32) → Ob → Nat → Int32 → Option (Int32 × Ob × Ob)} {rmE : Room} (hrm : rmE.cells = 0 ∧ rmE.slots = 0) (hrec : ∀ (a : Nat → Nat) (bt : Nat) (a0 : Nat → Nat) (h_village : Nat) (h_friends : Nat) (h_picks : Nat) (h_keeps : Nat) (v : Ob) (ut : (Nat → Int32)) (v0 : Ob) (nt : Nat) (p1 : Int32) (res9 : Int32 × Ob × Ob), rec v ut v0 nt p1 = some res9 → CEi aK aV l yX6_expr cX6_expr 5 (some .int) rmE D dT [.ref (a 0), .ref (a0 0), .int p1] ([wRd dT a h_village h_friends h_picks h_keeps bt v, [(bt, .inl (dT 2, nt, .inl ut))], wR dT a0 v0]) ([wRd dT a h_village h_friends h_picks h_keeps bt res9.2.1, [(bt, .inl (dT 2, nt, .inl ut))], wR dT a0 res9.2.2]) res9.1) (C : Cx p s m args meth c cX6_notPart 6 RX6 (some .int) D A dT) (E : AMB aK aV A s s.heap) : ∀ (n : Nat) (l5 : Int32) (z0 : Ob) (z2 : Ob), f_X6_notPart_L106 rec nt l3 l4 z1 n l5 z0 z2 = some res → WA p l e ({ frames := rmE.frames + 11, cells := 0, slots := 0, locals := rmE.locals + 480 } : Room) s m args below meth c (MQ below (QI D dT A ([wRd dT a h_village h_friends h_picks h_keeps bt res.2.1, [(bt, .inl (dT 2, nt, .inl z1))], wR dT a0 res.2.2]) res.1) args s 0 0 A) D A 0 0 6 106 ([wRd dT a h_village h_friends h_picks h_keeps bt z0, [(bt, .inl (dT 2, nt, .inl z1))], wR dT a0 z2]) [(1, .ref (a0 0)), (3, .int l3), (4, .int l4), (5, .int l5)] [] := by
  intro n
  induction n with
  | zero => intro l5 z0 z2 hf; cases hf
  | succ n ih =>
    intro l5 z0 z2 hf
    unfold f_X6_notPart_L106 at hf
    refine wa_iload C 3 108 dX6_notPart_106 rfl rfl ?_
    refine wa_iload_n C 1 109 dX6_notPart_108 rfl rfl ?_
    refine wa_icmp_ge C 125 112 dX6_notPart_109 rfl rfl (fun c5 => ?_) (fun c5 => ?_)
    · replace hf := ite_t hf c5
      refine wa_iload C 2 127 dX6_notPart_125 rfl rfl ?_
      cases hf
      exact wa_iret C dX6_notPart_127 rfl rfl
    · replace hf := ite_f hf c5
      refine wa_aload_n C 0 113 dX6_notPart_112 rfl rfl ?_
      refine wa_sipush (v := 20033) C 116 dX6_notPart_113 rfl rfl ?_
      obtain ⟨q6, hq6, hf⟩ := bind_ex hf
      refine wa_callVv (b1 := 2) (q1 := 0) (ci := 7) (ws' := [wRd dT a h_village h_friends h_picks h_keeps bt z0, [(bt, .inl (dT 2, nt, .inl z1))], wR dT a0 q6]) (As := [.int (20033 : Int32)]) C 119 dX6_notPart_116 rfl kv_X6_172 (c_X7_add hq6) ⟨rfl, rfl⟩ ⟨by show 0 + 1 ≤ rmE.frames + 11; omega, by show 8 + (2 + 11) + 0 ≤ rmE.locals + 480; omega⟩ rfl rfl rfl [2] [0, 1] [0, 1, 2] rfl rfl rfl rfl (by decide) rfl rfl rfl rfl ⟨Nat.zero_le _, Nat.zero_le _⟩ (Nat.le_of_ble_eq_true rfl) ?_
      obtain ⟨x8, ex8, hf⟩ := bnd_ex hf
      refine wa_iinc (v := x8) (lv' := [(1, .ref (a0 0)), (3, .int l3), (4, .int l4), (5, .int x8)]) C 3 [1, 2, 3, 0] 122 dX6_notPart_119 rfl rfl (by rw [ex8]; rfl) (Nat.le_of_ble_eq_true rfl) rfl ?_
      refine wa_goto C 106 dX6_notPart_122 rfl ?_
      exact ih x8 z0 q6 hf
set_option maxRecDepth 20000 in
theorem w_X6_notPart_J75 {p : Program} {l : Launch} {e : Env} {s : State} {m : MethodId} {args : Array Value} {below : List Frame} {meth : Method} {c : Code} {D : va_G} {A : Nat → Prop} {dT : Nat → ClassId} {a : Nat → Nat} {bt : Nat} {a0 : Nat → Nat} {h_village : Nat} {h_friends : Nat} {h_picks : Nat} {h_keeps : Nat} {aK aV : Nat → Nat} {nt : Nat} {res : Int32 × Ob × Ob} {z1 : (Nat → Int32)} {rec : Ob → (Nat → Int32) → Ob → Nat → Int32 → Option (Int32 × Ob × Ob)} {rmE : Room} (hrm : rmE.cells = 0 ∧ rmE.slots = 0) (hrec : ∀ (a : Nat → Nat) (bt : Nat) (a0 : Nat → Nat) (h_village : Nat) (h_friends : Nat) (h_picks : Nat) (h_keeps : Nat) (v : Ob) (ut : (Nat → Int32)) (v0 : Ob) (nt : Nat) (p1 : Int32) (res9 : Int32 × Ob × Ob), rec v ut v0 nt p1 = some res9 → CEi aK aV l yX6_expr cX6_expr 5 (some .int) rmE D dT [.ref (a 0), .ref (a0 0), .int p1] ([wRd dT a h_village h_friends h_picks h_keeps bt v, [(bt, .inl (dT 2, nt, .inl ut))], wR dT a0 v0]) ([wRd dT a h_village h_friends h_picks h_keeps bt res9.2.1, [(bt, .inl (dT 2, nt, .inl ut))], wR dT a0 res9.2.2]) res9.1) (C : Cx p s m args meth c cX6_notPart 6 RX6 (some .int) D A dT) (E : AMB aK aV A s s.heap) : ∀ (l2 : Int32) (l3 : Int32) (z0 : Ob) (z2 : Ob), f_X6_notPart_J75 rec nt z1 l2 l3 z0 z2 = some res → WA p l e ({ frames := rmE.frames + 11, cells := 0, slots := 0, locals := rmE.locals + 480 } : Room) s m args below meth c (MQ below (QI D dT A ([wRd dT a h_village h_friends h_picks h_keeps bt res.2.1, [(bt, .inl (dT 2, nt, .inl z1))], wR dT a0 res.2.2]) res.1) args s 0 0 A) D A 0 0 6 75 ([wRd dT a h_village h_friends h_picks h_keeps bt z0, [(bt, .inl (dT 2, nt, .inl z1))], wR dT a0 z2]) [(0, .ref (a 0)), (1, .ref (a0 0)), (2, .int l2), (3, .int l3)] [] := by
  intro l2 l3 z0 z2 hf
  unfold f_X6_notPart_J75 at hf
  refine wa_aload_n C 0 76 dX6_notPart_75 rfl rfl ?_
  refine wa_get C 79 0 0 8 dX6_notPart_76 rfl iX6 q169 rfl (Nat.le_of_ble_eq_true rfl) rfl rfl rfl ?_
  obtain ⟨x10, ex10, hf⟩ := bnd_ex hf
  refine wa_topi ex10 ?_
  refine wa_istore (lv' := [(0, .ref (a 0)), (1, .ref (a0 0)), (2, .int l2), (3, .int l3), (5, .int x10)]) C [1, 2, 3, 4, 0] 81 dX6_notPart_79 rfl (Nat.le_of_ble_eq_true rfl) rfl ?_
  refine wa_aload_n C 0 82 dX6_notPart_81 rfl rfl ?_
  obtain ⟨q11, hq11, hf⟩ := bind_ex hf
  refine we_callVv (ws' := [wRd dT a h_village h_friends h_picks h_keeps bt q11, [(bt, .inl (dT 2, nt, .inl z1))], wR dT a0 z2]) (As := []) C E 85 dX6_notPart_82 rfl kv_X6_72 (c_X6_next hq11) ⟨rfl, rfl⟩ ⟨by show 6 + 1 ≤ rmE.frames + 11; omega, by show 8 + (2 + 11) + 126 ≤ rmE.locals + 480; omega⟩ (rv_obj (ci := 6) C 0 0 rfl rfl rfl) [0, 1] [2] [1, 2, 0] rfl rfl rfl rfl (by decide) rfl rfl rfl rfl ⟨Nat.zero_le _, Nat.zero_le _⟩ (Nat.le_of_ble_eq_true rfl) ?_
  refine wa_aload_n C 0 86 dX6_notPart_85 rfl rfl ?_
  refine wa_aload_n C 1 87 dX6_notPart_86 rfl rfl ?_
  refine wa_iload_n C 2 88 dX6_notPart_87 rfl rfl ?_
  obtain ⟨q13, hq13, hf⟩ := bind_ex hf
  refine we_callVi (ws' := [wRd dT a h_village h_friends h_picks h_keeps bt q13.2.1, [(bt, .inl (dT 2, nt, .inl z1))], wR dT a0 q13.2.2]) (As := [.ref (a0 0), .int l2]) C E 91 dX6_notPart_88 rfl kv_X6_181 (c_X6_sum hrm hrec hq13) ⟨rfl, rfl⟩ ⟨by show rmE.frames + 10 + 1 ≤ rmE.frames + 11; omega, by show 8 + (6 + 11) + (rmE.locals + 420) ≤ rmE.locals + 480; omega⟩ (rv_obj (ci := 6) C 0 0 rfl rfl rfl) [0, 1, 2] [] [0, 1, 2] rfl rfl rfl rfl (by decide) rfl rfl rfl rfl ⟨Nat.zero_le _, Nat.zero_le _⟩ (Nat.le_of_ble_eq_true rfl) ?_
  refine wa_istore (lv' := [(0, .ref (a 0)), (1, .ref (a0 0)), (2, .int l2), (3, .int l3), (4, .int q13.1), (5, .int x10)]) C [1, 2, 3, 4, 0, 5] 93 dX6_notPart_91 rfl (Nat.le_of_ble_eq_true rfl) rfl ?_
  refine wa_aload_n C 1 94 dX6_notPart_93 rfl rfl ?_
  refine wa_sipush (v := 20000) C 97 dX6_notPart_94 rfl rfl ?_
  refine wa_iload C 5 99 dX6_notPart_97 rfl rfl ?_
  refine wa_iadd C 100 dX6_notPart_99 rfl ?_
  obtain ⟨q15, hq15, hf⟩ := bind_ex hf
  refine wa_callVv (b1 := 2) (q1 := 0) (ci := 7) (ws' := [wRd dT a h_village h_friends h_picks h_keeps bt q13.2.1, [(bt, .inl (dT 2, nt, .inl z1))], wR dT a0 q15]) (As := [.int ((20000 : Int32) + x10)]) C 103 dX6_notPart_100 rfl kv_X6_172 (c_X7_add hq15) ⟨rfl, rfl⟩ ⟨by show 0 + 1 ≤ rmE.frames + 11; omega, by show 8 + (2 + 11) + 0 ≤ rmE.locals + 480; omega⟩ rfl rfl rfl [2] [0, 1] [0, 1, 2] rfl rfl rfl rfl (by decide) rfl rfl rfl rfl ⟨Nat.zero_le _, Nat.zero_le _⟩ (Nat.le_of_ble_eq_true rfl) ?_
  refine wa_iconst (v := 0) C 104 dX6_notPart_103 rfl rfl ?_
  refine wa_istore (lv' := [(0, .ref (a 0)), (1, .ref (a0 0)), (2, .int l2), (3, .int l3), (4, .int q13.1), (5, .int (0 : Int32))]) C [1, 2, 3, 4, 5, 0] 106 dX6_notPart_104 rfl (Nat.le_of_ble_eq_true rfl) rfl ?_
  refine wa_lv (lv' := [(1, .ref (a0 0)), (3, .int l3), (4, .int q13.1), (5, .int (0 : Int32))]) [1, 3, 4, 5] rfl ?_
  exact w_X6_notPart_L106 hrm hrec C E FUEL (0 : Int32) q13.2.1 q15 hf
set_option maxRecDepth 20000 in
theorem w_X6_notPart_J44 {p : Program} {l : Launch} {e : Env} {s : State} {m : MethodId} {args : Array Value} {below : List Frame} {meth : Method} {c : Code} {D : va_G} {A : Nat → Prop} {dT : Nat → ClassId} {a : Nat → Nat} {bt : Nat} {a0 : Nat → Nat} {h_village : Nat} {h_friends : Nat} {h_picks : Nat} {h_keeps : Nat} {aK aV : Nat → Nat} {nt : Nat} {res : Int32 × Ob × Ob} {z1 : (Nat → Int32)} {rec : Ob → (Nat → Int32) → Ob → Nat → Int32 → Option (Int32 × Ob × Ob)} {rmE : Room} (hrm : rmE.cells = 0 ∧ rmE.slots = 0) (hrec : ∀ (a : Nat → Nat) (bt : Nat) (a0 : Nat → Nat) (h_village : Nat) (h_friends : Nat) (h_picks : Nat) (h_keeps : Nat) (v : Ob) (ut : (Nat → Int32)) (v0 : Ob) (nt : Nat) (p1 : Int32) (res9 : Int32 × Ob × Ob), rec v ut v0 nt p1 = some res9 → CEi aK aV l yX6_expr cX6_expr 5 (some .int) rmE D dT [.ref (a 0), .ref (a0 0), .int p1] ([wRd dT a h_village h_friends h_picks h_keeps bt v, [(bt, .inl (dT 2, nt, .inl ut))], wR dT a0 v0]) ([wRd dT a h_village h_friends h_picks h_keeps bt res9.2.1, [(bt, .inl (dT 2, nt, .inl ut))], wR dT a0 res9.2.2]) res9.1) (C : Cx p s m args meth c cX6_notPart 6 RX6 (some .int) D A dT) (E : AMB aK aV A s s.heap) : ∀ (l2 : Int32) (l3 : Int32) (z0 : Ob) (z2 : Ob), f_X6_notPart_J44 rec nt z1 l2 l3 z0 z2 = some res → WA p l e ({ frames := rmE.frames + 11, cells := 0, slots := 0, locals := rmE.locals + 480 } : Room) s m args below meth c (MQ below (QI D dT A ([wRd dT a h_village h_friends h_picks h_keeps bt res.2.1, [(bt, .inl (dT 2, nt, .inl z1))], wR dT a0 res.2.2]) res.1) args s 0 0 A) D A 0 0 6 44 ([wRd dT a h_village h_friends h_picks h_keeps bt z0, [(bt, .inl (dT 2, nt, .inl z1))], wR dT a0 z2]) [(0, .ref (a 0)), (1, .ref (a0 0)), (2, .int l2), (3, .int l3)] [] := by
  intro l2 l3 z0 z2 hf
  unfold f_X6_notPart_J44 at hf
  refine wa_aload_n C 0 45 dX6_notPart_44 rfl rfl ?_
  refine wa_aload_n C 1 46 dX6_notPart_45 rfl rfl ?_
  refine wa_iload_n C 2 47 dX6_notPart_46 rfl rfl ?_
  obtain ⟨q2, hq2, hf⟩ := bind_ex hf
  refine we_callVi (ws' := [wRd dT a h_village h_friends h_picks h_keeps bt q2.2.1, [(bt, .inl (dT 2, nt, .inl z1))], wR dT a0 q2.2.2]) (As := [.ref (a0 0), .int l2]) C E 50 dX6_notPart_47 rfl kv_X6_181 (c_X6_sum hrm hrec hq2) ⟨rfl, rfl⟩ ⟨by show rmE.frames + 10 + 1 ≤ rmE.frames + 11; omega, by show 8 + (6 + 11) + (rmE.locals + 420) ≤ rmE.locals + 480; omega⟩ (rv_obj (ci := 6) C 0 0 rfl rfl rfl) [0, 1, 2] [] [0, 1, 2] rfl rfl rfl rfl (by decide) rfl rfl rfl rfl ⟨Nat.zero_le _, Nat.zero_le _⟩ (Nat.le_of_ble_eq_true rfl) ?_
  refine wa_istore (lv' := [(0, .ref (a 0)), (1, .ref (a0 0)), (2, .int l2), (3, .int l3), (4, .int q2.1)]) C [1, 2, 3, 4, 0] 52 dX6_notPart_50 rfl (Nat.le_of_ble_eq_true rfl) rfl ?_
  refine wa_iload C 4 54 dX6_notPart_52 rfl rfl ?_
  refine wa_if_ne C 103 57 dX6_notPart_54 rfl rfl (fun c4 => ?_) (fun c4 => ?_)
  · replace hf := ite_f hf c4
    refine wa_iconst (v := 0) C 104 dX6_notPart_103 rfl rfl ?_
    refine wa_istore (lv' := [(0, .ref (a 0)), (1, .ref (a0 0)), (2, .int l2), (3, .int l3), (4, .int q2.1), (5, .int (0 : Int32))]) C [1, 2, 3, 4, 5, 0] 106 dX6_notPart_104 rfl (Nat.le_of_ble_eq_true rfl) rfl ?_
    refine wa_lv (lv' := [(1, .ref (a0 0)), (3, .int l3), (4, .int q2.1), (5, .int (0 : Int32))]) [1, 3, 4, 5] rfl ?_
    exact w_X6_notPart_L106 hrm hrec C E FUEL (0 : Int32) q2.2.1 q2.2.2 hf
  · replace hf := ite_t hf c4
    refine wa_aload_n C 0 58 dX6_notPart_57 rfl rfl ?_
    refine wa_get C 61 0 0 8 dX6_notPart_58 rfl iX6 q169 rfl (Nat.le_of_ble_eq_true rfl) rfl rfl rfl ?_
    refine wa_bipush (v := 60) C 63 dX6_notPart_61 rfl rfl ?_
    refine wa_icmp_eq C 75 66 dX6_notPart_63 rfl rfl (fun c9 => ?_) (fun c9 => ?_)
    · replace hf := ite_t hf c9
      refine wa_lv (lv' := [(0, .ref (a 0)), (1, .ref (a0 0)), (2, .int l2), (3, .int l3)]) [0, 1, 2, 3] rfl ?_
      exact w_X6_notPart_J75 hrm hrec C E l2 l3 q2.2.1 q2.2.2 hf
    · replace hf := ite_f hf c9
      refine wa_aload_n C 0 67 dX6_notPart_66 rfl rfl ?_
      refine wa_get C 70 0 0 8 dX6_notPart_67 rfl iX6 q169 rfl (Nat.le_of_ble_eq_true rfl) rfl rfl rfl ?_
      refine wa_bipush (v := 61) C 72 dX6_notPart_70 rfl rfl ?_
      refine wa_icmp_ne C 103 75 dX6_notPart_72 rfl rfl (fun c17 => ?_) (fun c17 => ?_)
      · replace hf := ite_f hf c17
        refine wa_iconst (v := 0) C 104 dX6_notPart_103 rfl rfl ?_
        refine wa_istore (lv' := [(0, .ref (a 0)), (1, .ref (a0 0)), (2, .int l2), (3, .int l3), (4, .int q2.1), (5, .int (0 : Int32))]) C [1, 2, 3, 4, 5, 0] 106 dX6_notPart_104 rfl (Nat.le_of_ble_eq_true rfl) rfl ?_
        refine wa_lv (lv' := [(1, .ref (a0 0)), (3, .int l3), (4, .int q2.1), (5, .int (0 : Int32))]) [1, 3, 4, 5] rfl ?_
        exact w_X6_notPart_L106 hrm hrec C E FUEL (0 : Int32) q2.2.1 q2.2.2 hf
      · replace hf := ite_t hf c17
        refine wa_lv (lv' := [(0, .ref (a 0)), (1, .ref (a0 0)), (2, .int l2), (3, .int l3)]) [0, 1, 2, 3] rfl ?_
        exact w_X6_notPart_J75 hrm hrec C E l2 l3 q2.2.1 q2.2.2 hf
set_option maxRecDepth 20000 in
theorem w_X6_notPart_L5 {p : Program} {l : Launch} {e : Env} {s : State} {m : MethodId} {args : Array Value} {below : List Frame} {meth : Method} {c : Code} {D : va_G} {A : Nat → Prop} {dT : Nat → ClassId} {a : Nat → Nat} {bt : Nat} {a0 : Nat → Nat} {h_village : Nat} {h_friends : Nat} {h_picks : Nat} {h_keeps : Nat} {aK aV : Nat → Nat} {nt : Nat} {res : Int32 × Ob × Ob} {l2 : Int32} {z1 : (Nat → Int32)} {rec : Ob → (Nat → Int32) → Ob → Nat → Int32 → Option (Int32 × Ob × Ob)} {rmE : Room} (hrm : rmE.cells = 0 ∧ rmE.slots = 0) (hrec : ∀ (a : Nat → Nat) (bt : Nat) (a0 : Nat → Nat) (h_village : Nat) (h_friends : Nat) (h_picks : Nat) (h_keeps : Nat) (v : Ob) (ut : (Nat → Int32)) (v0 : Ob) (nt : Nat) (p1 : Int32) (res9 : Int32 × Ob × Ob), rec v ut v0 nt p1 = some res9 → CEi aK aV l yX6_expr cX6_expr 5 (some .int) rmE D dT [.ref (a 0), .ref (a0 0), .int p1] ([wRd dT a h_village h_friends h_picks h_keeps bt v, [(bt, .inl (dT 2, nt, .inl ut))], wR dT a0 v0]) ([wRd dT a h_village h_friends h_picks h_keeps bt res9.2.1, [(bt, .inl (dT 2, nt, .inl ut))], wR dT a0 res9.2.2]) res9.1) (C : Cx p s m args meth c cX6_notPart 6 RX6 (some .int) D A dT) (E : AMB aK aV A s s.heap) : ∀ (n : Nat) (l3 : Int32) (l4 : Int32) (z0 : Ob) (z2 : Ob), f_X6_notPart_L5 rec nt l2 z1 n l3 l4 z0 z2 = some res → WA p l e ({ frames := rmE.frames + 11, cells := 0, slots := 0, locals := rmE.locals + 480 } : Room) s m args below meth c (MQ below (QI D dT A ([wRd dT a h_village h_friends h_picks h_keeps bt res.2.1, [(bt, .inl (dT 2, nt, .inl z1))], wR dT a0 res.2.2]) res.1) args s 0 0 A) D A 0 0 6 5 ([wRd dT a h_village h_friends h_picks h_keeps bt z0, [(bt, .inl (dT 2, nt, .inl z1))], wR dT a0 z2]) [(0, .ref (a 0)), (1, .ref (a0 0)), (2, .int l2), (3, .int l3), (4, .int l4)] [] := by
  intro n
  induction n with
  | zero => intro l3 l4 z0 z2 hf; cases hf
  | succ n ih =>
    intro l3 l4 z0 z2 hf
    unfold f_X6_notPart_L5 at hf
    refine wa_iload C 4 7 dX6_notPart_5 rfl rfl ?_
    refine wa_aload_n C 0 8 dX6_notPart_7 rfl rfl ?_
    refine wa_get C 11 0 0 5 dX6_notPart_8 rfl iX6 q166 rfl (Nat.le_of_ble_eq_true rfl) rfl rfl rfl ?_
    refine wa_icmp_ge C 44 14 dX6_notPart_11 rfl rfl (fun c1 => ?_) (fun c1 => ?_)
    · replace hf := ite_t hf c1
      refine wa_lv (lv' := [(0, .ref (a 0)), (1, .ref (a0 0)), (2, .int l2), (3, .int l3)]) [0, 1, 2, 3] rfl ?_
      exact w_X6_notPart_J44 hrm hrec C E l2 l3 z0 z2 hf
    · replace hf := ite_f hf c1
      refine wa_aload_n C 0 15 dX6_notPart_14 rfl rfl ?_
      refine wa_ldcS C E 6 17 dX6_notPart_15 rfl rfl ?_
      obtain ⟨q18, hq18, hf⟩ := bind_ex hf
      refine we_callVi (ws' := [wRd dT a h_village h_friends h_picks h_keeps bt z0, [(bt, .inl (dT 2, nt, .inl z1))], wR dT a0 z2]) (As := [.ref (aK 6)]) C E 20 dX6_notPart_17 rfl kv_X6_105 (c_X6_isWord hq18) ⟨rfl, rfl⟩ ⟨by show 4 + 1 ≤ rmE.frames + 11; omega, by show 8 + (3 + 11) + 85 ≤ rmE.locals + 480; omega⟩ (rv_obj (ci := 6) C 0 0 rfl rfl rfl) [0, 1] [2] [1, 2, 0] rfl rfl rfl rfl (by decide) rfl rfl rfl rfl ⟨Nat.zero_le _, Nat.zero_le _⟩ (Nat.le_of_ble_eq_true rfl) ?_
      refine wa_if_eq C 44 23 dX6_notPart_20 rfl rfl (fun c20 => ?_) (fun c20 => ?_)
      · replace hf := ite_t hf c20
        refine wa_lv (lv' := [(0, .ref (a 0)), (1, .ref (a0 0)), (2, .int l2), (3, .int l3)]) [0, 1, 2, 3] rfl ?_
        exact w_X6_notPart_J44 hrm hrec C E l2 l3 z0 z2 hf
      · replace hf := ite_f hf c20
        refine wa_iload_n C 3 24 dX6_notPart_23 rfl rfl ?_
        refine wa_bipush (v := 6) C 26 dX6_notPart_24 rfl rfl ?_
        refine wa_icmp_lt C 31 29 dX6_notPart_26 rfl rfl (fun c21 => ?_) (fun c21 => ?_)
        · replace hf := ite_t hf c21
          obtain ⟨x22, ex22, hf⟩ := bnd_ex hf
          refine wa_iinc (v := x22) (lv' := [(0, .ref (a 0)), (1, .ref (a0 0)), (2, .int l2), (3, .int x22), (4, .int l4)]) C 3 [1, 2, 3, 0, 4] 34 dX6_notPart_31 rfl rfl (by rw [ex22]; rfl) (Nat.le_of_ble_eq_true rfl) rfl ?_
          refine wa_aload_n C 0 35 dX6_notPart_34 rfl rfl ?_
          obtain ⟨q23, hq23, hf⟩ := bind_ex hf
          refine we_callVv (ws' := [wRd dT a h_village h_friends h_picks h_keeps bt q23, [(bt, .inl (dT 2, nt, .inl z1))], wR dT a0 z2]) (As := []) C E 38 dX6_notPart_35 rfl kv_X6_72 (c_X6_next hq23) ⟨rfl, rfl⟩ ⟨by show 6 + 1 ≤ rmE.frames + 11; omega, by show 8 + (2 + 11) + 126 ≤ rmE.locals + 480; omega⟩ (rv_obj (ci := 6) C 0 0 rfl rfl rfl) [0, 1] [2] [1, 2, 0] rfl rfl rfl rfl (by decide) rfl rfl rfl rfl ⟨Nat.zero_le _, Nat.zero_le _⟩ (Nat.le_of_ble_eq_true rfl) ?_
          obtain ⟨x25, ex25, hf⟩ := bnd_ex hf
          refine wa_iinc (v := x25) (lv' := [(0, .ref (a 0)), (1, .ref (a0 0)), (2, .int l2), (3, .int x22), (4, .int x25)]) C 4 [1, 2, 3, 4, 0] 41 dX6_notPart_38 rfl rfl (by rw [ex25]; rfl) (Nat.le_of_ble_eq_true rfl) rfl ?_
          refine wa_goto C 5 dX6_notPart_41 rfl ?_
          exact ih x22 x25 q23 z2 hf
        · replace hf := ite_f hf c21
          refine wa_iconst (v := 2) C 30 dX6_notPart_29 rfl rfl ?_
          cases hf
          exact wa_iret C dX6_notPart_30 rfl rfl
set_option maxRecDepth 20000 in
theorem c_X6_notPart {l : Launch} {D : va_G} {dT : Nat → ClassId} {a : Nat → Nat} {bt : Nat} {a0 : Nat → Nat} {h_village : Nat} {h_friends : Nat} {h_picks : Nat} {h_keeps : Nat} {aK aV : Nat → Nat} {nt : Nat} {v : Ob} {ut : (Nat → Int32)} {v0 : Ob} {p1 : Int32} {rec : Ob → (Nat → Int32) → Ob → Nat → Int32 → Option (Int32 × Ob × Ob)} {rmE : Room} (hrm : rmE.cells = 0 ∧ rmE.slots = 0) (hrec : ∀ (a : Nat → Nat) (bt : Nat) (a0 : Nat → Nat) (h_village : Nat) (h_friends : Nat) (h_picks : Nat) (h_keeps : Nat) (v : Ob) (ut : (Nat → Int32)) (v0 : Ob) (nt : Nat) (p1 : Int32) (res9 : Int32 × Ob × Ob), rec v ut v0 nt p1 = some res9 → CEi aK aV l yX6_expr cX6_expr 5 (some .int) rmE D dT [.ref (a 0), .ref (a0 0), .int p1] ([wRd dT a h_village h_friends h_picks h_keeps bt v, [(bt, .inl (dT 2, nt, .inl ut))], wR dT a0 v0]) ([wRd dT a h_village h_friends h_picks h_keeps bt res9.2.1, [(bt, .inl (dT 2, nt, .inl ut))], wR dT a0 res9.2.2]) res9.1) {res : Int32 × Ob × Ob} (hf : f_X6_notPart rec v ut v0 nt p1 = some res) : CEi aK aV l yX6_notPart cX6_notPart 6 (some .int) ({ frames := rmE.frames + 11, cells := 0, slots := 0, locals := rmE.locals + 480 } : Room) D dT [.ref (a 0), .ref (a0 0), .int p1] ([wRd dT a h_village h_friends h_picks h_keeps bt v, [(bt, .inl (dT 2, nt, .inl ut))], wR dT a0 v0]) ([wRd dT a h_village h_friends h_picks h_keeps bt res.2.1, [(bt, .inl (dT 2, nt, .inl ut))], wR dT a0 res.2.2]) res.1 := by
  refine CEi.of (by decide) (Nat.le_of_ble_eq_true rfl) rfl ?_
  intro p e s m args below meth c A C E
  unfold f_X6_notPart at hf
  refine wa_iconst (v := 0) C 1 dX6_notPart_0 rfl rfl ?_
  refine wa_istore_n (lv' := [(0, .ref (a 0)), (1, .ref (a0 0)), (2, .int p1), (3, .int (0 : Int32))]) C [1, 2, 3, 0] 2 dX6_notPart_1 rfl (Nat.le_of_ble_eq_true rfl) rfl ?_
  refine wa_iconst (v := 0) C 3 dX6_notPart_2 rfl rfl ?_
  refine wa_istore (lv' := [(0, .ref (a 0)), (1, .ref (a0 0)), (2, .int p1), (3, .int (0 : Int32)), (4, .int (0 : Int32))]) C [1, 2, 3, 4, 0] 5 dX6_notPart_3 rfl (Nat.le_of_ble_eq_true rfl) rfl ?_
  exact w_X6_notPart_L5 hrm hrec C E FUEL (0 : Int32) (0 : Int32) v v0 hf
theorem kv_X6_174 : KV RX6 174 yX6_notPart cX6_notPart 6 (some .int) 2 := KV.mk q878 q880 qs27 q2 q881 ⟨by decide, by decide, by decide +kernel⟩
def f_X6_andPart_L10 (rec : Ob → (Nat → Int32) → Ob → Nat → Int32 → Option (Int32 × Ob × Ob)) (nt : Nat) (l2 : Int32) (z1 : (Nat → Int32)) : Nat → Int32 → Int32 → Ob → Ob → Option (Int32 × Ob × Ob)
  | 0, _, _, _, _ => none
  | n + 1, l3, l4, z0, z2 => (if (z0.1 5) ≤ l4 then some (l3, z0, z2) else (if l3 = 0 then (f_X6_isWord z0 z1 nt 15).bind (fun q5 => (if q5 = 0 then some (l3, z0, z2) else (f_X6_next z0 z1 nt).bind (fun q8 => (f_X6_notPart rec q8 z1 z2 nt l2).bind (fun q10 => (f_X7_add q10.2.2 (20038 : Int32)).bind (fun q12 => bnd (l4 + 1) (fun x14 => f_X6_andPart_L10 rec nt l2 z1 n q10.1 x14 q10.2.1 q12)))))) else some (l3, z0, z2)))
def f_X6_andPart (rec : Ob → (Nat → Int32) → Ob → Nat → Int32 → Option (Int32 × Ob × Ob)) (v : Ob) (ut : (Nat → Int32)) (v0 : Ob) (nt : Nat) (p1 : Int32) : Option (Int32 × Ob × Ob) := (f_X6_notPart rec v ut v0 nt p1).bind (fun q1 => f_X6_andPart_L10 rec nt p1 ut FUEL q1.1 (0 : Int32) q1.2.1 q1.2.2)
set_option maxRecDepth 20000 in
theorem w_X6_andPart_L10 {p : Program} {l : Launch} {e : Env} {s : State} {m : MethodId} {args : Array Value} {below : List Frame} {meth : Method} {c : Code} {D : va_G} {A : Nat → Prop} {dT : Nat → ClassId} {a : Nat → Nat} {bt : Nat} {a0 : Nat → Nat} {h_village : Nat} {h_friends : Nat} {h_picks : Nat} {h_keeps : Nat} {aK aV : Nat → Nat} {nt : Nat} {res : Int32 × Ob × Ob} {l2 : Int32} {z1 : (Nat → Int32)} {rec : Ob → (Nat → Int32) → Ob → Nat → Int32 → Option (Int32 × Ob × Ob)} {rmE : Room} (hrm : rmE.cells = 0 ∧ rmE.slots = 0) (hrec : ∀ (a : Nat → Nat) (bt : Nat) (a0 : Nat → Nat) (h_village : Nat) (h_friends : Nat) (h_picks : Nat) (h_keeps : Nat) (v : Ob) (ut : (Nat → Int32)) (v0 : Ob) (nt : Nat) (p1 : Int32) (res9 : Int32 × Ob × Ob), rec v ut v0 nt p1 = some res9 → CEi aK aV l yX6_expr cX6_expr 5 (some .int) rmE D dT [.ref (a 0), .ref (a0 0), .int p1] ([wRd dT a h_village h_friends h_picks h_keeps bt v, [(bt, .inl (dT 2, nt, .inl ut))], wR dT a0 v0]) ([wRd dT a h_village h_friends h_picks h_keeps bt res9.2.1, [(bt, .inl (dT 2, nt, .inl ut))], wR dT a0 res9.2.2]) res9.1) (C : Cx p s m args meth c cX6_andPart 5 RX6 (some .int) D A dT) (E : AMB aK aV A s s.heap) : ∀ (n : Nat) (l3 : Int32) (l4 : Int32) (z0 : Ob) (z2 : Ob), f_X6_andPart_L10 rec nt l2 z1 n l3 l4 z0 z2 = some res → WA p l e ({ frames := rmE.frames + 12, cells := 0, slots := 0, locals := rmE.locals + 540 } : Room) s m args below meth c (MQ below (QI D dT A ([wRd dT a h_village h_friends h_picks h_keeps bt res.2.1, [(bt, .inl (dT 2, nt, .inl z1))], wR dT a0 res.2.2]) res.1) args s 0 0 A) D A 0 0 5 10 ([wRd dT a h_village h_friends h_picks h_keeps bt z0, [(bt, .inl (dT 2, nt, .inl z1))], wR dT a0 z2]) [(0, .ref (a 0)), (1, .ref (a0 0)), (2, .int l2), (3, .int l3), (4, .int l4)] [] := by
  intro n
  induction n with
  | zero => intro l3 l4 z0 z2 hf; cases hf
  | succ n ih =>
    intro l3 l4 z0 z2 hf
    unfold f_X6_andPart_L10 at hf
    refine wa_iload C 4 12 dX6_andPart_10 rfl rfl ?_
    refine wa_aload_n C 0 13 dX6_andPart_12 rfl rfl ?_
    refine wa_get C 16 0 0 5 dX6_andPart_13 rfl iX6 q166 rfl (Nat.le_of_ble_eq_true rfl) rfl rfl rfl ?_
    refine wa_icmp_ge C 56 19 dX6_andPart_16 rfl rfl (fun c3 => ?_) (fun c3 => ?_)
    · replace hf := ite_t hf c3
      refine wa_iload_n C 3 57 dX6_andPart_56 rfl rfl ?_
      cases hf
      exact wa_iret C dX6_andPart_57 rfl rfl
    · replace hf := ite_f hf c3
      refine wa_iload_n C 3 20 dX6_andPart_19 rfl rfl ?_
      refine wa_if_ne C 56 23 dX6_andPart_20 rfl rfl (fun c4 => ?_) (fun c4 => ?_)
      · replace hf := ite_f hf c4
        refine wa_iload_n C 3 57 dX6_andPart_56 rfl rfl ?_
        cases hf
        exact wa_iret C dX6_andPart_57 rfl rfl
      · replace hf := ite_t hf c4
        refine wa_aload_n C 0 24 dX6_andPart_23 rfl rfl ?_
        refine wa_ldcS C E 15 26 dX6_andPart_24 rfl rfl ?_
        obtain ⟨q5, hq5, hf⟩ := bind_ex hf
        refine we_callVi (ws' := [wRd dT a h_village h_friends h_picks h_keeps bt z0, [(bt, .inl (dT 2, nt, .inl z1))], wR dT a0 z2]) (As := [.ref (aK 15)]) C E 29 dX6_andPart_26 rfl kv_X6_105 (c_X6_isWord hq5) ⟨rfl, rfl⟩ ⟨by show 4 + 1 ≤ rmE.frames + 12; omega, by show 8 + (3 + 11) + 85 ≤ rmE.locals + 540; omega⟩ (rv_obj (ci := 6) C 0 0 rfl rfl rfl) [0, 1] [2] [1, 2, 0] rfl rfl rfl rfl (by decide) rfl rfl rfl rfl ⟨Nat.zero_le _, Nat.zero_le _⟩ (Nat.le_of_ble_eq_true rfl) ?_
        refine wa_if_eq C 56 32 dX6_andPart_29 rfl rfl (fun c7 => ?_) (fun c7 => ?_)
        · replace hf := ite_t hf c7
          refine wa_iload_n C 3 57 dX6_andPart_56 rfl rfl ?_
          cases hf
          exact wa_iret C dX6_andPart_57 rfl rfl
        · replace hf := ite_f hf c7
          refine wa_aload_n C 0 33 dX6_andPart_32 rfl rfl ?_
          obtain ⟨q8, hq8, hf⟩ := bind_ex hf
          refine we_callVv (ws' := [wRd dT a h_village h_friends h_picks h_keeps bt q8, [(bt, .inl (dT 2, nt, .inl z1))], wR dT a0 z2]) (As := []) C E 36 dX6_andPart_33 rfl kv_X6_72 (c_X6_next hq8) ⟨rfl, rfl⟩ ⟨by show 6 + 1 ≤ rmE.frames + 12; omega, by show 8 + (2 + 11) + 126 ≤ rmE.locals + 540; omega⟩ (rv_obj (ci := 6) C 0 0 rfl rfl rfl) [0, 1] [2] [1, 2, 0] rfl rfl rfl rfl (by decide) rfl rfl rfl rfl ⟨Nat.zero_le _, Nat.zero_le _⟩ (Nat.le_of_ble_eq_true rfl) ?_
          refine wa_aload_n C 0 37 dX6_andPart_36 rfl rfl ?_
          refine wa_aload_n C 1 38 dX6_andPart_37 rfl rfl ?_
          refine wa_iload_n C 2 39 dX6_andPart_38 rfl rfl ?_
          obtain ⟨q10, hq10, hf⟩ := bind_ex hf
          refine we_callVi (ws' := [wRd dT a h_village h_friends h_picks h_keeps bt q10.2.1, [(bt, .inl (dT 2, nt, .inl z1))], wR dT a0 q10.2.2]) (As := [.ref (a0 0), .int l2]) C E 42 dX6_andPart_39 rfl kv_X6_174 (c_X6_notPart hrm hrec hq10) ⟨rfl, rfl⟩ ⟨by show rmE.frames + 11 + 1 ≤ rmE.frames + 12; omega, by show 8 + (6 + 11) + (rmE.locals + 480) ≤ rmE.locals + 540; omega⟩ (rv_obj (ci := 6) C 0 0 rfl rfl rfl) [0, 1, 2] [] [0, 1, 2] rfl rfl rfl rfl (by decide) rfl rfl rfl rfl ⟨Nat.zero_le _, Nat.zero_le _⟩ (Nat.le_of_ble_eq_true rfl) ?_
          refine wa_istore_n (lv' := [(0, .ref (a 0)), (1, .ref (a0 0)), (2, .int l2), (3, .int q10.1), (4, .int l4)]) C [1, 2, 3, 0, 4] 43 dX6_andPart_42 rfl (Nat.le_of_ble_eq_true rfl) rfl ?_
          refine wa_aload_n C 1 44 dX6_andPart_43 rfl rfl ?_
          refine wa_sipush (v := 20038) C 47 dX6_andPart_44 rfl rfl ?_
          obtain ⟨q12, hq12, hf⟩ := bind_ex hf
          refine wa_callVv (b1 := 2) (q1 := 0) (ci := 7) (ws' := [wRd dT a h_village h_friends h_picks h_keeps bt q10.2.1, [(bt, .inl (dT 2, nt, .inl z1))], wR dT a0 q12]) (As := [.int (20038 : Int32)]) C 50 dX6_andPart_47 rfl kv_X6_172 (c_X7_add hq12) ⟨rfl, rfl⟩ ⟨by show 0 + 1 ≤ rmE.frames + 12; omega, by show 8 + (2 + 11) + 0 ≤ rmE.locals + 540; omega⟩ rfl rfl rfl [2] [0, 1] [0, 1, 2] rfl rfl rfl rfl (by decide) rfl rfl rfl rfl ⟨Nat.zero_le _, Nat.zero_le _⟩ (Nat.le_of_ble_eq_true rfl) ?_
          obtain ⟨x14, ex14, hf⟩ := bnd_ex hf
          refine wa_iinc (v := x14) (lv' := [(0, .ref (a 0)), (1, .ref (a0 0)), (2, .int l2), (3, .int q10.1), (4, .int x14)]) C 4 [1, 2, 3, 4, 0] 53 dX6_andPart_50 rfl rfl (by rw [ex14]; rfl) (Nat.le_of_ble_eq_true rfl) rfl ?_
          refine wa_goto C 10 dX6_andPart_53 rfl ?_
          exact ih q10.1 x14 q10.2.1 q12 hf
set_option maxRecDepth 20000 in
theorem c_X6_andPart {l : Launch} {D : va_G} {dT : Nat → ClassId} {a : Nat → Nat} {bt : Nat} {a0 : Nat → Nat} {h_village : Nat} {h_friends : Nat} {h_picks : Nat} {h_keeps : Nat} {aK aV : Nat → Nat} {nt : Nat} {v : Ob} {ut : (Nat → Int32)} {v0 : Ob} {p1 : Int32} {rec : Ob → (Nat → Int32) → Ob → Nat → Int32 → Option (Int32 × Ob × Ob)} {rmE : Room} (hrm : rmE.cells = 0 ∧ rmE.slots = 0) (hrec : ∀ (a : Nat → Nat) (bt : Nat) (a0 : Nat → Nat) (h_village : Nat) (h_friends : Nat) (h_picks : Nat) (h_keeps : Nat) (v : Ob) (ut : (Nat → Int32)) (v0 : Ob) (nt : Nat) (p1 : Int32) (res9 : Int32 × Ob × Ob), rec v ut v0 nt p1 = some res9 → CEi aK aV l yX6_expr cX6_expr 5 (some .int) rmE D dT [.ref (a 0), .ref (a0 0), .int p1] ([wRd dT a h_village h_friends h_picks h_keeps bt v, [(bt, .inl (dT 2, nt, .inl ut))], wR dT a0 v0]) ([wRd dT a h_village h_friends h_picks h_keeps bt res9.2.1, [(bt, .inl (dT 2, nt, .inl ut))], wR dT a0 res9.2.2]) res9.1) {res : Int32 × Ob × Ob} (hf : f_X6_andPart rec v ut v0 nt p1 = some res) : CEi aK aV l yX6_andPart cX6_andPart 5 (some .int) ({ frames := rmE.frames + 12, cells := 0, slots := 0, locals := rmE.locals + 540 } : Room) D dT [.ref (a 0), .ref (a0 0), .int p1] ([wRd dT a h_village h_friends h_picks h_keeps bt v, [(bt, .inl (dT 2, nt, .inl ut))], wR dT a0 v0]) ([wRd dT a h_village h_friends h_picks h_keeps bt res.2.1, [(bt, .inl (dT 2, nt, .inl ut))], wR dT a0 res.2.2]) res.1 := by
  refine CEi.of (by decide) (Nat.le_of_ble_eq_true rfl) rfl ?_
  intro p e s m args below meth c A C E
  unfold f_X6_andPart at hf
  refine wa_aload_n C 0 1 dX6_andPart_0 rfl rfl ?_
  refine wa_aload_n C 1 2 dX6_andPart_1 rfl rfl ?_
  refine wa_iload_n C 2 3 dX6_andPart_2 rfl rfl ?_
  obtain ⟨q1, hq1, hf⟩ := bind_ex hf
  refine we_callVi (ws' := [wRd dT a h_village h_friends h_picks h_keeps bt q1.2.1, [(bt, .inl (dT 2, nt, .inl ut))], wR dT a0 q1.2.2]) (As := [.ref (a0 0), .int p1]) C E 6 dX6_andPart_3 rfl kv_X6_174 (c_X6_notPart hrm hrec hq1) ⟨rfl, rfl⟩ ⟨by show rmE.frames + 11 + 1 ≤ rmE.frames + 12; omega, by show 8 + (6 + 11) + (rmE.locals + 480) ≤ rmE.locals + 540; omega⟩ (rv_obj (ci := 6) C 0 0 rfl rfl rfl) [0, 1, 2] [] [0, 1, 2] rfl rfl rfl rfl (by decide) rfl rfl rfl rfl ⟨Nat.zero_le _, Nat.zero_le _⟩ (Nat.le_of_ble_eq_true rfl) ?_
  refine wa_istore_n (lv' := [(0, .ref (a 0)), (1, .ref (a0 0)), (2, .int p1), (3, .int q1.1)]) C [1, 2, 3, 0] 7 dX6_andPart_6 rfl (Nat.le_of_ble_eq_true rfl) rfl ?_
  refine wa_iconst (v := 0) C 8 dX6_andPart_7 rfl rfl ?_
  refine wa_istore (lv' := [(0, .ref (a 0)), (1, .ref (a0 0)), (2, .int p1), (3, .int q1.1), (4, .int (0 : Int32))]) C [1, 2, 3, 4, 0] 10 dX6_andPart_8 rfl (Nat.le_of_ble_eq_true rfl) rfl ?_
  exact w_X6_andPart_L10 hrm hrec C E FUEL q1.1 (0 : Int32) q1.2.1 q1.2.2 hf
theorem kv_X6_167 : KV RX6 167 yX6_andPart cX6_andPart 5 (some .int) 2 := KV.mk q874 q876 qs26 q2 q877 ⟨by decide, by decide, by decide +kernel⟩
def f_X6_expr_L43 (rec : Ob → (Nat → Int32) → Ob → Nat → Int32 → Option (Int32 × Ob × Ob)) (nt : Nat) (l2 : Int32) (z1 : (Nat → Int32)) : Nat → Int32 → Int32 → Ob → Ob → Option (Int32 × Ob × Ob)
  | 0, _, _, _, _ => none
  | n + 1, l3, l4, z0, z2 => (if (z0.1 5) ≤ l4 then some (l3, z0, z2) else (if l3 = 0 then (f_X6_isWord z0 z1 nt 16).bind (fun q6 => (if q6 = 0 then some (l3, z0, z2) else (f_X6_next z0 z1 nt).bind (fun q9 => (f_X6_andPart rec q9 z1 z2 nt l2).bind (fun q11 => (f_X7_add q11.2.2 (20124 : Int32)).bind (fun q13 => bnd (l4 + 1) (fun x15 => f_X6_expr_L43 rec nt l2 z1 n q11.1 x15 q11.2.1 q13)))))) else some (l3, z0, z2)))
def f_X6_expr_J33 (rec : Ob → (Nat → Int32) → Ob → Nat → Int32 → Option (Int32 × Ob × Ob)) (nt : Nat) (z1 : (Nat → Int32)) (l2 : Int32) (z0 : Ob) (z2 : Ob) : Option (Int32 × Ob × Ob) := (f_X6_andPart rec z0 z1 z2 nt l2).bind (fun q2 => f_X6_expr_L43 rec nt l2 z1 FUEL q2.1 (0 : Int32) q2.2.1 q2.2.2)
def f_X6_expr (rec : Ob → (Nat → Int32) → Ob → Nat → Int32 → Option (Int32 × Ob × Ob)) (v : Ob) (ut : (Nat → Int32)) (v0 : Ob) (nt : Nat) (p1 : Int32) : Option (Int32 × Ob × Ob) := (if p1 < (6 : Int32) then f_X6_expr_J33 rec nt ut p1 v v0 else (if (v.1 8) = (2 : Int32) then some ((2 : Int32), v, v0) else (if (v.1 8) = (1 : Int32) then some ((2 : Int32), v, v0) else (if (v.1 8) = (40 : Int32) then some ((2 : Int32), v, v0) else f_X6_expr_J33 rec nt ut p1 v v0))))
set_option maxRecDepth 20000 in
theorem w_X6_expr_L43 {p : Program} {l : Launch} {e : Env} {s : State} {m : MethodId} {args : Array Value} {below : List Frame} {meth : Method} {c : Code} {D : va_G} {A : Nat → Prop} {dT : Nat → ClassId} {a : Nat → Nat} {bt : Nat} {a0 : Nat → Nat} {h_village : Nat} {h_friends : Nat} {h_picks : Nat} {h_keeps : Nat} {aK aV : Nat → Nat} {nt : Nat} {res : Int32 × Ob × Ob} {l2 : Int32} {z1 : (Nat → Int32)} {rec : Ob → (Nat → Int32) → Ob → Nat → Int32 → Option (Int32 × Ob × Ob)} {rmE : Room} (hrm : rmE.cells = 0 ∧ rmE.slots = 0) (hrec : ∀ (a : Nat → Nat) (bt : Nat) (a0 : Nat → Nat) (h_village : Nat) (h_friends : Nat) (h_picks : Nat) (h_keeps : Nat) (v : Ob) (ut : (Nat → Int32)) (v0 : Ob) (nt : Nat) (p1 : Int32) (res9 : Int32 × Ob × Ob), rec v ut v0 nt p1 = some res9 → CEi aK aV l yX6_expr cX6_expr 5 (some .int) rmE D dT [.ref (a 0), .ref (a0 0), .int p1] ([wRd dT a h_village h_friends h_picks h_keeps bt v, [(bt, .inl (dT 2, nt, .inl ut))], wR dT a0 v0]) ([wRd dT a h_village h_friends h_picks h_keeps bt res9.2.1, [(bt, .inl (dT 2, nt, .inl ut))], wR dT a0 res9.2.2]) res9.1) (C : Cx p s m args meth c cX6_expr 5 RX6 (some .int) D A dT) (E : AMB aK aV A s s.heap) : ∀ (n : Nat) (l3 : Int32) (l4 : Int32) (z0 : Ob) (z2 : Ob), f_X6_expr_L43 rec nt l2 z1 n l3 l4 z0 z2 = some res → WA p l e ({ frames := rmE.frames + 13, cells := 0, slots := 0, locals := rmE.locals + 600 } : Room) s m args below meth c (MQ below (QI D dT A ([wRd dT a h_village h_friends h_picks h_keeps bt res.2.1, [(bt, .inl (dT 2, nt, .inl z1))], wR dT a0 res.2.2]) res.1) args s 0 0 A) D A 0 0 5 43 ([wRd dT a h_village h_friends h_picks h_keeps bt z0, [(bt, .inl (dT 2, nt, .inl z1))], wR dT a0 z2]) [(0, .ref (a 0)), (1, .ref (a0 0)), (2, .int l2), (3, .int l3), (4, .int l4)] [] := by
  intro n
  induction n with
  | zero => intro l3 l4 z0 z2 hf; cases hf
  | succ n ih =>
    intro l3 l4 z0 z2 hf
    unfold f_X6_expr_L43 at hf
    refine wa_iload C 4 45 dX6_expr_43 rfl rfl ?_
    refine wa_aload_n C 0 46 dX6_expr_45 rfl rfl ?_
    refine wa_get C 49 0 0 5 dX6_expr_46 rfl iX6 q166 rfl (Nat.le_of_ble_eq_true rfl) rfl rfl rfl ?_
    refine wa_icmp_ge C 89 52 dX6_expr_49 rfl rfl (fun c4 => ?_) (fun c4 => ?_)
    · replace hf := ite_t hf c4
      refine wa_iload_n C 3 90 dX6_expr_89 rfl rfl ?_
      cases hf
      exact wa_iret C dX6_expr_90 rfl rfl
    · replace hf := ite_f hf c4
      refine wa_iload_n C 3 53 dX6_expr_52 rfl rfl ?_
      refine wa_if_ne C 89 56 dX6_expr_53 rfl rfl (fun c5 => ?_) (fun c5 => ?_)
      · replace hf := ite_f hf c5
        refine wa_iload_n C 3 90 dX6_expr_89 rfl rfl ?_
        cases hf
        exact wa_iret C dX6_expr_90 rfl rfl
      · replace hf := ite_t hf c5
        refine wa_aload_n C 0 57 dX6_expr_56 rfl rfl ?_
        refine wa_ldcS C E 16 59 dX6_expr_57 rfl rfl ?_
        obtain ⟨q6, hq6, hf⟩ := bind_ex hf
        refine we_callVi (ws' := [wRd dT a h_village h_friends h_picks h_keeps bt z0, [(bt, .inl (dT 2, nt, .inl z1))], wR dT a0 z2]) (As := [.ref (aK 16)]) C E 62 dX6_expr_59 rfl kv_X6_105 (c_X6_isWord hq6) ⟨rfl, rfl⟩ ⟨by show 4 + 1 ≤ rmE.frames + 13; omega, by show 8 + (3 + 11) + 85 ≤ rmE.locals + 600; omega⟩ (rv_obj (ci := 6) C 0 0 rfl rfl rfl) [0, 1] [2] [1, 2, 0] rfl rfl rfl rfl (by decide) rfl rfl rfl rfl ⟨Nat.zero_le _, Nat.zero_le _⟩ (Nat.le_of_ble_eq_true rfl) ?_
        refine wa_if_eq C 89 65 dX6_expr_62 rfl rfl (fun c8 => ?_) (fun c8 => ?_)
        · replace hf := ite_t hf c8
          refine wa_iload_n C 3 90 dX6_expr_89 rfl rfl ?_
          cases hf
          exact wa_iret C dX6_expr_90 rfl rfl
        · replace hf := ite_f hf c8
          refine wa_aload_n C 0 66 dX6_expr_65 rfl rfl ?_
          obtain ⟨q9, hq9, hf⟩ := bind_ex hf
          refine we_callVv (ws' := [wRd dT a h_village h_friends h_picks h_keeps bt q9, [(bt, .inl (dT 2, nt, .inl z1))], wR dT a0 z2]) (As := []) C E 69 dX6_expr_66 rfl kv_X6_72 (c_X6_next hq9) ⟨rfl, rfl⟩ ⟨by show 6 + 1 ≤ rmE.frames + 13; omega, by show 8 + (2 + 11) + 126 ≤ rmE.locals + 600; omega⟩ (rv_obj (ci := 6) C 0 0 rfl rfl rfl) [0, 1] [2] [1, 2, 0] rfl rfl rfl rfl (by decide) rfl rfl rfl rfl ⟨Nat.zero_le _, Nat.zero_le _⟩ (Nat.le_of_ble_eq_true rfl) ?_
          refine wa_aload_n C 0 70 dX6_expr_69 rfl rfl ?_
          refine wa_aload_n C 1 71 dX6_expr_70 rfl rfl ?_
          refine wa_iload_n C 2 72 dX6_expr_71 rfl rfl ?_
          obtain ⟨q11, hq11, hf⟩ := bind_ex hf
          refine we_callVi (ws' := [wRd dT a h_village h_friends h_picks h_keeps bt q11.2.1, [(bt, .inl (dT 2, nt, .inl z1))], wR dT a0 q11.2.2]) (As := [.ref (a0 0), .int l2]) C E 75 dX6_expr_72 rfl kv_X6_167 (c_X6_andPart hrm hrec hq11) ⟨rfl, rfl⟩ ⟨by show rmE.frames + 12 + 1 ≤ rmE.frames + 13; omega, by show 8 + (5 + 11) + (rmE.locals + 540) ≤ rmE.locals + 600; omega⟩ (rv_obj (ci := 6) C 0 0 rfl rfl rfl) [0, 1, 2] [] [0, 1, 2] rfl rfl rfl rfl (by decide) rfl rfl rfl rfl ⟨Nat.zero_le _, Nat.zero_le _⟩ (Nat.le_of_ble_eq_true rfl) ?_
          refine wa_istore_n (lv' := [(0, .ref (a 0)), (1, .ref (a0 0)), (2, .int l2), (3, .int q11.1), (4, .int l4)]) C [1, 2, 3, 0, 4] 76 dX6_expr_75 rfl (Nat.le_of_ble_eq_true rfl) rfl ?_
          refine wa_aload_n C 1 77 dX6_expr_76 rfl rfl ?_
          refine wa_sipush (v := 20124) C 80 dX6_expr_77 rfl rfl ?_
          obtain ⟨q13, hq13, hf⟩ := bind_ex hf
          refine wa_callVv (b1 := 2) (q1 := 0) (ci := 7) (ws' := [wRd dT a h_village h_friends h_picks h_keeps bt q11.2.1, [(bt, .inl (dT 2, nt, .inl z1))], wR dT a0 q13]) (As := [.int (20124 : Int32)]) C 83 dX6_expr_80 rfl kv_X6_172 (c_X7_add hq13) ⟨rfl, rfl⟩ ⟨by show 0 + 1 ≤ rmE.frames + 13; omega, by show 8 + (2 + 11) + 0 ≤ rmE.locals + 600; omega⟩ rfl rfl rfl [2] [0, 1] [0, 1, 2] rfl rfl rfl rfl (by decide) rfl rfl rfl rfl ⟨Nat.zero_le _, Nat.zero_le _⟩ (Nat.le_of_ble_eq_true rfl) ?_
          obtain ⟨x15, ex15, hf⟩ := bnd_ex hf
          refine wa_iinc (v := x15) (lv' := [(0, .ref (a 0)), (1, .ref (a0 0)), (2, .int l2), (3, .int q11.1), (4, .int x15)]) C 4 [1, 2, 3, 4, 0] 86 dX6_expr_83 rfl rfl (by rw [ex15]; rfl) (Nat.le_of_ble_eq_true rfl) rfl ?_
          refine wa_goto C 43 dX6_expr_86 rfl ?_
          exact ih q11.1 x15 q11.2.1 q13 hf
set_option maxRecDepth 20000 in
theorem w_X6_expr_J33 {p : Program} {l : Launch} {e : Env} {s : State} {m : MethodId} {args : Array Value} {below : List Frame} {meth : Method} {c : Code} {D : va_G} {A : Nat → Prop} {dT : Nat → ClassId} {a : Nat → Nat} {bt : Nat} {a0 : Nat → Nat} {h_village : Nat} {h_friends : Nat} {h_picks : Nat} {h_keeps : Nat} {aK aV : Nat → Nat} {nt : Nat} {res : Int32 × Ob × Ob} {z1 : (Nat → Int32)} {rec : Ob → (Nat → Int32) → Ob → Nat → Int32 → Option (Int32 × Ob × Ob)} {rmE : Room} (hrm : rmE.cells = 0 ∧ rmE.slots = 0) (hrec : ∀ (a : Nat → Nat) (bt : Nat) (a0 : Nat → Nat) (h_village : Nat) (h_friends : Nat) (h_picks : Nat) (h_keeps : Nat) (v : Ob) (ut : (Nat → Int32)) (v0 : Ob) (nt : Nat) (p1 : Int32) (res9 : Int32 × Ob × Ob), rec v ut v0 nt p1 = some res9 → CEi aK aV l yX6_expr cX6_expr 5 (some .int) rmE D dT [.ref (a 0), .ref (a0 0), .int p1] ([wRd dT a h_village h_friends h_picks h_keeps bt v, [(bt, .inl (dT 2, nt, .inl ut))], wR dT a0 v0]) ([wRd dT a h_village h_friends h_picks h_keeps bt res9.2.1, [(bt, .inl (dT 2, nt, .inl ut))], wR dT a0 res9.2.2]) res9.1) (C : Cx p s m args meth c cX6_expr 5 RX6 (some .int) D A dT) (E : AMB aK aV A s s.heap) : ∀ (l2 : Int32) (z0 : Ob) (z2 : Ob), f_X6_expr_J33 rec nt z1 l2 z0 z2 = some res → WA p l e ({ frames := rmE.frames + 13, cells := 0, slots := 0, locals := rmE.locals + 600 } : Room) s m args below meth c (MQ below (QI D dT A ([wRd dT a h_village h_friends h_picks h_keeps bt res.2.1, [(bt, .inl (dT 2, nt, .inl z1))], wR dT a0 res.2.2]) res.1) args s 0 0 A) D A 0 0 5 33 ([wRd dT a h_village h_friends h_picks h_keeps bt z0, [(bt, .inl (dT 2, nt, .inl z1))], wR dT a0 z2]) [(0, .ref (a 0)), (1, .ref (a0 0)), (2, .int l2)] [] := by
  intro l2 z0 z2 hf
  unfold f_X6_expr_J33 at hf
  refine wa_aload_n C 0 34 dX6_expr_33 rfl rfl ?_
  refine wa_aload_n C 1 35 dX6_expr_34 rfl rfl ?_
  refine wa_iload_n C 2 36 dX6_expr_35 rfl rfl ?_
  obtain ⟨q2, hq2, hf⟩ := bind_ex hf
  refine we_callVi (ws' := [wRd dT a h_village h_friends h_picks h_keeps bt q2.2.1, [(bt, .inl (dT 2, nt, .inl z1))], wR dT a0 q2.2.2]) (As := [.ref (a0 0), .int l2]) C E 39 dX6_expr_36 rfl kv_X6_167 (c_X6_andPart hrm hrec hq2) ⟨rfl, rfl⟩ ⟨by show rmE.frames + 12 + 1 ≤ rmE.frames + 13; omega, by show 8 + (5 + 11) + (rmE.locals + 540) ≤ rmE.locals + 600; omega⟩ (rv_obj (ci := 6) C 0 0 rfl rfl rfl) [0, 1, 2] [] [0, 1, 2] rfl rfl rfl rfl (by decide) rfl rfl rfl rfl ⟨Nat.zero_le _, Nat.zero_le _⟩ (Nat.le_of_ble_eq_true rfl) ?_
  refine wa_istore_n (lv' := [(0, .ref (a 0)), (1, .ref (a0 0)), (2, .int l2), (3, .int q2.1)]) C [1, 2, 3, 0] 40 dX6_expr_39 rfl (Nat.le_of_ble_eq_true rfl) rfl ?_
  refine wa_iconst (v := 0) C 41 dX6_expr_40 rfl rfl ?_
  refine wa_istore (lv' := [(0, .ref (a 0)), (1, .ref (a0 0)), (2, .int l2), (3, .int q2.1), (4, .int (0 : Int32))]) C [1, 2, 3, 4, 0] 43 dX6_expr_41 rfl (Nat.le_of_ble_eq_true rfl) rfl ?_
  exact w_X6_expr_L43 hrm hrec C E FUEL q2.1 (0 : Int32) q2.2.1 q2.2.2 hf
set_option maxRecDepth 20000 in
theorem c_X6_expr {l : Launch} {D : va_G} {dT : Nat → ClassId} {a : Nat → Nat} {bt : Nat} {a0 : Nat → Nat} {h_village : Nat} {h_friends : Nat} {h_picks : Nat} {h_keeps : Nat} {aK aV : Nat → Nat} {nt : Nat} {v : Ob} {ut : (Nat → Int32)} {v0 : Ob} {p1 : Int32} {rec : Ob → (Nat → Int32) → Ob → Nat → Int32 → Option (Int32 × Ob × Ob)} {rmE : Room} (hrm : rmE.cells = 0 ∧ rmE.slots = 0) (hrec : ∀ (a : Nat → Nat) (bt : Nat) (a0 : Nat → Nat) (h_village : Nat) (h_friends : Nat) (h_picks : Nat) (h_keeps : Nat) (v : Ob) (ut : (Nat → Int32)) (v0 : Ob) (nt : Nat) (p1 : Int32) (res9 : Int32 × Ob × Ob), rec v ut v0 nt p1 = some res9 → CEi aK aV l yX6_expr cX6_expr 5 (some .int) rmE D dT [.ref (a 0), .ref (a0 0), .int p1] ([wRd dT a h_village h_friends h_picks h_keeps bt v, [(bt, .inl (dT 2, nt, .inl ut))], wR dT a0 v0]) ([wRd dT a h_village h_friends h_picks h_keeps bt res9.2.1, [(bt, .inl (dT 2, nt, .inl ut))], wR dT a0 res9.2.2]) res9.1) {res : Int32 × Ob × Ob} (hf : f_X6_expr rec v ut v0 nt p1 = some res) : CEi aK aV l yX6_expr cX6_expr 5 (some .int) ({ frames := rmE.frames + 13, cells := 0, slots := 0, locals := rmE.locals + 600 } : Room) D dT [.ref (a 0), .ref (a0 0), .int p1] ([wRd dT a h_village h_friends h_picks h_keeps bt v, [(bt, .inl (dT 2, nt, .inl ut))], wR dT a0 v0]) ([wRd dT a h_village h_friends h_picks h_keeps bt res.2.1, [(bt, .inl (dT 2, nt, .inl ut))], wR dT a0 res.2.2]) res.1 := by
  refine CEi.of (by decide) (Nat.le_of_ble_eq_true rfl) rfl ?_
  intro p e s m args below meth c A C E
  unfold f_X6_expr at hf
  refine wa_iload_n C 2 1 dX6_expr_0 rfl rfl ?_
  refine wa_bipush (v := 6) C 3 dX6_expr_1 rfl rfl ?_
  refine wa_icmp_lt C 33 6 dX6_expr_3 rfl rfl (fun c1 => ?_) (fun c1 => ?_)
  · replace hf := ite_t hf c1
    exact w_X6_expr_J33 hrm hrec C E p1 v v0 hf
  · replace hf := ite_f hf c1
    refine wa_aload_n C 0 7 dX6_expr_6 rfl rfl ?_
    refine wa_get C 10 0 0 8 dX6_expr_7 rfl iX6 q169 rfl (Nat.le_of_ble_eq_true rfl) rfl rfl rfl ?_
    refine wa_iconst (v := 2) C 11 dX6_expr_10 rfl rfl ?_
    refine wa_icmp_eq C 31 14 dX6_expr_11 rfl rfl (fun c16 => ?_) (fun c16 => ?_)
    · replace hf := ite_t hf c16
      refine wa_iconst (v := 2) C 32 dX6_expr_31 rfl rfl ?_
      cases hf
      exact wa_iret C dX6_expr_32 rfl rfl
    · replace hf := ite_f hf c16
      refine wa_aload_n C 0 15 dX6_expr_14 rfl rfl ?_
      refine wa_get C 18 0 0 8 dX6_expr_15 rfl iX6 q169 rfl (Nat.le_of_ble_eq_true rfl) rfl rfl rfl ?_
      refine wa_iconst (v := 1) C 19 dX6_expr_18 rfl rfl ?_
      refine wa_icmp_eq C 31 22 dX6_expr_19 rfl rfl (fun c17 => ?_) (fun c17 => ?_)
      · replace hf := ite_t hf c17
        refine wa_iconst (v := 2) C 32 dX6_expr_31 rfl rfl ?_
        cases hf
        exact wa_iret C dX6_expr_32 rfl rfl
      · replace hf := ite_f hf c17
        refine wa_aload_n C 0 23 dX6_expr_22 rfl rfl ?_
        refine wa_get C 26 0 0 8 dX6_expr_23 rfl iX6 q169 rfl (Nat.le_of_ble_eq_true rfl) rfl rfl rfl ?_
        refine wa_bipush (v := 40) C 28 dX6_expr_26 rfl rfl ?_
        refine wa_icmp_ne C 33 31 dX6_expr_28 rfl rfl (fun c18 => ?_) (fun c18 => ?_)
        · replace hf := ite_f hf c18
          exact w_X6_expr_J33 hrm hrec C E p1 v v0 hf
        · replace hf := ite_t hf c18
          refine wa_iconst (v := 2) C 32 dX6_expr_31 rfl rfl ?_
          cases hf
          exact wa_iret C dX6_expr_32 rfl rfl
def fx_expr : Nat → Ob → (Nat → Int32) → Ob → Nat → Int32 → Option (Int32 × Ob × Ob)
  | 0, _, _, _, _, _ => none
  | n + 1, x0, x1, x2, x3, x4 => f_X6_expr (fx_expr n) x0 x1 x2 x3 x4
theorem cx_expr (n : Nat) {l : Launch} {D : va_G} {dT : Nat → ClassId} {aK aV : Nat → Nat} {a : Nat → Nat} {bt : Nat} {a0 : Nat → Nat} {h_village : Nat} {h_friends : Nat} {h_picks : Nat} {h_keeps : Nat} {v : Ob} {ut : (Nat → Int32)} {v0 : Ob} {nt : Nat} {p1 : Int32} {res : Int32 × Ob × Ob} (hf : fx_expr n v ut v0 nt p1 = some res) : CEi aK aV l yX6_expr cX6_expr 5 (some .int) ({ frames := 13 * n, cells := 0, slots := 0, locals := 600 * n } : Room) D dT [.ref (a 0), .ref (a0 0), .int p1] ([wRd dT a h_village h_friends h_picks h_keeps bt v, [(bt, .inl (dT 2, nt, .inl ut))], wR dT a0 v0]) ([wRd dT a h_village h_friends h_picks h_keeps bt res.2.1, [(bt, .inl (dT 2, nt, .inl ut))], wR dT a0 res.2.2]) res.1 := by
  induction n generalizing a bt a0 h_village h_friends h_picks h_keeps v ut v0 nt p1 res with
  | zero => cases hf
  | succ n ih =>
    exact c_X6_expr (rmE := { frames := 13 * n, cells := 0, slots := 0, locals := 600 * n }) ⟨rfl, rfl⟩ (rec := fx_expr n) (fun _ _ _ _ _ _ _ _ _ _ _ _ res9 hf9 => ih hf9) hf
