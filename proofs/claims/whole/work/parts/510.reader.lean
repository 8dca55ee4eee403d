def wRd (dT : Nat → ClassId) (a : Nat → Nat) (h_village h_friends h_picks h_keeps h_text : Nat) (v : Ob) : va_W := [(a 0, .inr (6, [.ref h_village, .ref h_friends, .ref h_picks, .ref h_keeps, .ref h_text, .int (v.1 5), .int (v.1 6), .int (v.1 7), .int (v.1 8), .int (v.1 9), .int (v.1 10)]))]
def f_X6_place (v : Ob) : Option (Int32) := some ((v.1 6))
set_option maxRecDepth 20000 in
theorem c_X6_place {l : Launch} {D : va_G} {dT : Nat → ClassId} {a : Nat → Nat} {h_village : Nat} {h_friends : Nat} {h_picks : Nat} {h_keeps : Nat} {tx : Nat} {v : Ob} {res : Int32} (hf : f_X6_place v = some res) : CTi l yX6_place cX6_place 1 (some .int) ({ frames := 0, cells := 0, slots := 0, locals := 0 } : Room) D dT [.ref (a 0)] ([wRd dT a h_village h_friends h_picks h_keeps tx v]) ([wRd dT a h_village h_friends h_picks h_keeps tx v]) res := by
  refine CTi.of (by decide) (Nat.le_of_ble_eq_true rfl) rfl ?_
  intro p e s m args below meth c A C
  unfold f_X6_place at hf
  refine wa_aload_n C 0 1 dX6_place_0 rfl rfl ?_
  refine wa_get C 4 0 0 6 dX6_place_1 rfl iX6 q167 rfl (Nat.le_of_ble_eq_true rfl) rfl rfl rfl ?_
  cases hf
  exact wa_iret C dX6_place_4 rfl rfl
def f_X6_endOfRow_L5 (nt : Nat) (l1 : Int32) (l2 : Int32) (z0 : Ob) (z1 : (Nat → Int32)) : Nat → Int32 → Option (Int32)
  | 0, _ => none
  | n + 1, l3 => (if (z0.1 5) ≤ l3 then some (l3) else grd (vi l3 nt) ((if (z1 (l3).toNatClampNeg) < l1 then some (l3) else grd (vi l3 nt) ((if l2 < (z1 (l3).toNatClampNeg) then some (l3) else bnd (l3 + 1) (fun x7 => f_X6_endOfRow_L5 nt l1 l2 z0 z1 n x7))))))
def f_X6_endOfRow (v : Ob) (ut : (Nat → Int32)) (nt : Nat) (p0 : Int32) (p1 : Int32) : Option (Int32) := bnd (v.1 6) (fun x1 => f_X6_endOfRow_L5 nt p0 p1 v ut FUEL x1)
set_option maxRecDepth 20000 in
theorem w_X6_endOfRow_L5 {p : Program} {l : Launch} {e : Env} {s : State} {m : MethodId} {args : Array Value} {below : List Frame} {meth : Method} {c : Code} {D : va_G} {A : Nat → Prop} {dT : Nat → ClassId} {a : Nat → Nat} {bt : Nat} {h_village : Nat} {h_friends : Nat} {h_picks : Nat} {h_keeps : Nat} {nt : Nat} {res : Int32} {l1 : Int32} {l2 : Int32} {z0 : Ob} {z1 : (Nat → Int32)} (C : Cx p s m args meth c cX6_endOfRow 4 RX6 (some .int) D A dT) : ∀ (n : Nat) (l3 : Int32), f_X6_endOfRow_L5 nt l1 l2 z0 z1 n l3 = some res → WA p l e ({ frames := 0, cells := 0, slots := 0, locals := 0 } : Room) s m args below meth c (MQ below (QI D dT A ([wRd dT a h_village h_friends h_picks h_keeps bt z0, [(bt, .inl (dT 2, nt, .inl z1))]]) res) args s 0 0 A) D A 0 0 4 5 ([wRd dT a h_village h_friends h_picks h_keeps bt z0, [(bt, .inl (dT 2, nt, .inl z1))]]) [(0, .ref (a 0)), (1, .int l1), (2, .int l2), (3, .int l3)] [] := by
  intro n
  induction n with
  | zero => intro l3 hf; cases hf
  | succ n ih =>
    intro l3 hf
    unfold f_X6_endOfRow_L5 at hf
    refine wa_iload_n C 3 6 dX6_endOfRow_5 rfl rfl ?_
    refine wa_aload_n C 0 7 dX6_endOfRow_6 rfl rfl ?_
    refine wa_get C 10 0 0 5 dX6_endOfRow_7 rfl iX6 q166 rfl (Nat.le_of_ble_eq_true rfl) rfl rfl rfl ?_
    refine wa_icmp_ge C 39 13 dX6_endOfRow_10 rfl rfl (fun c2 => ?_) (fun c2 => ?_)
    · replace hf := ite_t hf c2
      refine wa_iload_n C 3 40 dX6_endOfRow_39 rfl rfl ?_
      cases hf
      exact wa_iret C dX6_endOfRow_40 rfl rfl
    · replace hf := ite_f hf c2
      refine wa_aload_n C 0 14 dX6_endOfRow_13 rfl rfl ?_
      refine wa_get C 17 0 0 4 dX6_endOfRow_14 rfl iX6 q165 rfl (Nat.le_of_ble_eq_true rfl) rfl rfl rfl ?_
      refine wa_iload_n C 3 18 dX6_endOfRow_17 rfl rfl ?_
      obtain ⟨g3, hf⟩ := grd_ex hf
      refine wa_bald C 19 1 0 dX6_endOfRow_18 rfl rfl rfl (vi_in g3) ?_
      refine wa_iload_n C 1 20 dX6_endOfRow_19 rfl rfl ?_
      refine wa_icmp_lt C 39 23 dX6_endOfRow_20 rfl rfl (fun c4 => ?_) (fun c4 => ?_)
      · replace hf := ite_t hf c4
        refine wa_iload_n C 3 40 dX6_endOfRow_39 rfl rfl ?_
        cases hf
        exact wa_iret C dX6_endOfRow_40 rfl rfl
      · replace hf := ite_f hf c4
        refine wa_aload_n C 0 24 dX6_endOfRow_23 rfl rfl ?_
        refine wa_get C 27 0 0 4 dX6_endOfRow_24 rfl iX6 q165 rfl (Nat.le_of_ble_eq_true rfl) rfl rfl rfl ?_
        refine wa_iload_n C 3 28 dX6_endOfRow_27 rfl rfl ?_
        obtain ⟨g5, hf⟩ := grd_ex hf
        refine wa_bald C 29 1 0 dX6_endOfRow_28 rfl rfl rfl (vi_in g5) ?_
        refine wa_iload_n C 2 30 dX6_endOfRow_29 rfl rfl ?_
        refine wa_icmp_gt C 39 33 dX6_endOfRow_30 rfl rfl (fun c6 => ?_) (fun c6 => ?_)
        · replace hf := ite_t hf c6
          refine wa_iload_n C 3 40 dX6_endOfRow_39 rfl rfl ?_
          cases hf
          exact wa_iret C dX6_endOfRow_40 rfl rfl
        · replace hf := ite_f hf c6
          obtain ⟨x7, ex7, hf⟩ := bnd_ex hf
          refine wa_iinc (v := x7) (lv' := [(0, .ref (a 0)), (1, .int l1), (2, .int l2), (3, .int x7)]) C 3 [1, 2, 3, 0] 36 dX6_endOfRow_33 rfl rfl (by rw [ex7]; rfl) (Nat.le_of_ble_eq_true rfl) rfl ?_
          refine wa_goto C 5 dX6_endOfRow_36 rfl ?_
          exact ih x7 hf
set_option maxRecDepth 20000 in
theorem c_X6_endOfRow {l : Launch} {D : va_G} {dT : Nat → ClassId} {a : Nat → Nat} {bt : Nat} {h_village : Nat} {h_friends : Nat} {h_picks : Nat} {h_keeps : Nat} {nt : Nat} {v : Ob} {ut : (Nat → Int32)} {p0 : Int32} {p1 : Int32} {res : Int32} (hf : f_X6_endOfRow v ut nt p0 p1 = some res) : CTi l yX6_endOfRow cX6_endOfRow 4 (some .int) ({ frames := 0, cells := 0, slots := 0, locals := 0 } : Room) D dT [.ref (a 0), .int p0, .int p1] ([wRd dT a h_village h_friends h_picks h_keeps bt v, [(bt, .inl (dT 2, nt, .inl ut))]]) ([wRd dT a h_village h_friends h_picks h_keeps bt v, [(bt, .inl (dT 2, nt, .inl ut))]]) res := by
  refine CTi.of (by decide) (Nat.le_of_ble_eq_true rfl) rfl ?_
  intro p e s m args below meth c A C
  unfold f_X6_endOfRow at hf
  refine wa_aload_n C 0 1 dX6_endOfRow_0 rfl rfl ?_
  refine wa_get C 4 0 0 6 dX6_endOfRow_1 rfl iX6 q167 rfl (Nat.le_of_ble_eq_true rfl) rfl rfl rfl ?_
  obtain ⟨x1, ex1, hf⟩ := bnd_ex hf
  refine wa_topi ex1 ?_
  refine wa_istore_n (lv' := [(0, .ref (a 0)), (1, .int p0), (2, .int p1), (3, .int x1)]) C [1, 2, 3, 0] 5 dX6_endOfRow_4 rfl (Nat.le_of_ble_eq_true rfl) rfl ?_
  exact w_X6_endOfRow_L5 C FUEL x1 hf
def f_X6_numberTold_L7 (nt : Nat) (z0 : Ob) (z1 : (Nat → Int32)) : Nat → Int32 → Int32 → Option (Int32)
  | 0, _, _ => none
  | n + 1, l1, l2 => (if (z0.1 7) ≤ l2 then some (l1) else (if ((z0.1 6) + (4 : Int32)) ≤ l2 then some (l1) else grd (vi l2 nt) (bnd (((l1 * (10 : Int32)) + (z1 (l2).toNatClampNeg)) - (48 : Int32)) (fun x5 => bnd (l2 + 1) (fun x6 => f_X6_numberTold_L7 nt z0 z1 n x5 x6)))))
def f_X6_numberTold (v : Ob) (ut : (Nat → Int32)) (nt : Nat) : Option (Int32) := bnd (v.1 6) (fun x1 => f_X6_numberTold_L7 nt v ut FUEL (0 : Int32) x1)
set_option maxRecDepth 20000 in
theorem w_X6_numberTold_L7 {p : Program} {l : Launch} {e : Env} {s : State} {m : MethodId} {args : Array Value} {below : List Frame} {meth : Method} {c : Code} {D : va_G} {A : Nat → Prop} {dT : Nat → ClassId} {a : Nat → Nat} {bt : Nat} {h_village : Nat} {h_friends : Nat} {h_picks : Nat} {h_keeps : Nat} {nt : Nat} {res : Int32} {z0 : Ob} {z1 : (Nat → Int32)} (C : Cx p s m args meth c cX6_numberTold 3 RX6 (some .int) D A dT) : ∀ (n : Nat) (l1 : Int32) (l2 : Int32), f_X6_numberTold_L7 nt z0 z1 n l1 l2 = some res → WA p l e ({ frames := 0, cells := 0, slots := 0, locals := 0 } : Room) s m args below meth c (MQ below (QI D dT A ([wRd dT a h_village h_friends h_picks h_keeps bt z0, [(bt, .inl (dT 2, nt, .inl z1))]]) res) args s 0 0 A) D A 0 0 3 7 ([wRd dT a h_village h_friends h_picks h_keeps bt z0, [(bt, .inl (dT 2, nt, .inl z1))]]) [(0, .ref (a 0)), (1, .int l1), (2, .int l2)] [] := by
  intro n
  induction n with
  | zero => intro l1 l2 hf; cases hf
  | succ n ih =>
    intro l1 l2 hf
    unfold f_X6_numberTold_L7 at hf
    refine wa_iload_n C 2 8 dX6_numberTold_7 rfl rfl ?_
    refine wa_aload_n C 0 9 dX6_numberTold_8 rfl rfl ?_
    refine wa_get C 12 0 0 7 dX6_numberTold_9 rfl iX6 q168 rfl (Nat.le_of_ble_eq_true rfl) rfl rfl rfl ?_
    refine wa_icmp_ge C 46 15 dX6_numberTold_12 rfl rfl (fun c2 => ?_) (fun c2 => ?_)
    · replace hf := ite_t hf c2
      refine wa_iload_n C 1 47 dX6_numberTold_46 rfl rfl ?_
      cases hf
      exact wa_iret C dX6_numberTold_47 rfl rfl
    · replace hf := ite_f hf c2
      refine wa_iload_n C 2 16 dX6_numberTold_15 rfl rfl ?_
      refine wa_aload_n C 0 17 dX6_numberTold_16 rfl rfl ?_
      refine wa_get C 20 0 0 6 dX6_numberTold_17 rfl iX6 q167 rfl (Nat.le_of_ble_eq_true rfl) rfl rfl rfl ?_
      refine wa_iconst (v := 4) C 21 dX6_numberTold_20 rfl rfl ?_
      refine wa_iadd C 22 dX6_numberTold_21 rfl ?_
      refine wa_icmp_ge C 46 25 dX6_numberTold_22 rfl rfl (fun c3 => ?_) (fun c3 => ?_)
      · replace hf := ite_t hf c3
        refine wa_iload_n C 1 47 dX6_numberTold_46 rfl rfl ?_
        cases hf
        exact wa_iret C dX6_numberTold_47 rfl rfl
      · replace hf := ite_f hf c3
        refine wa_iload_n C 1 26 dX6_numberTold_25 rfl rfl ?_
        refine wa_bipush (v := 10) C 28 dX6_numberTold_26 rfl rfl ?_
        refine wa_imul C 29 dX6_numberTold_28 rfl ?_
        refine wa_aload_n C 0 30 dX6_numberTold_29 rfl rfl ?_
        refine wa_get C 33 0 0 4 dX6_numberTold_30 rfl iX6 q165 rfl (Nat.le_of_ble_eq_true rfl) rfl rfl rfl ?_
        refine wa_iload_n C 2 34 dX6_numberTold_33 rfl rfl ?_
        obtain ⟨g4, hf⟩ := grd_ex hf
        refine wa_bald C 35 1 0 dX6_numberTold_34 rfl rfl rfl (vi_in g4) ?_
        refine wa_iadd C 36 dX6_numberTold_35 rfl ?_
        refine wa_bipush (v := 48) C 38 dX6_numberTold_36 rfl rfl ?_
        refine wa_isub C 39 dX6_numberTold_38 rfl ?_
        obtain ⟨x5, ex5, hf⟩ := bnd_ex hf
        refine wa_topi ex5 ?_
        refine wa_istore_n (lv' := [(0, .ref (a 0)), (1, .int x5), (2, .int l2)]) C [1, 0, 2] 40 dX6_numberTold_39 rfl (Nat.le_of_ble_eq_true rfl) rfl ?_
        obtain ⟨x6, ex6, hf⟩ := bnd_ex hf
        refine wa_iinc (v := x6) (lv' := [(0, .ref (a 0)), (1, .int x5), (2, .int x6)]) C 2 [1, 2, 0] 43 dX6_numberTold_40 rfl rfl (by rw [ex6]; rfl) (Nat.le_of_ble_eq_true rfl) rfl ?_
        refine wa_goto C 7 dX6_numberTold_43 rfl ?_
        exact ih x5 x6 hf
set_option maxRecDepth 20000 in
theorem c_X6_numberTold {l : Launch} {D : va_G} {dT : Nat → ClassId} {a : Nat → Nat} {bt : Nat} {h_village : Nat} {h_friends : Nat} {h_picks : Nat} {h_keeps : Nat} {nt : Nat} {v : Ob} {ut : (Nat → Int32)} {res : Int32} (hf : f_X6_numberTold v ut nt = some res) : CTi l yX6_numberTold cX6_numberTold 3 (some .int) ({ frames := 0, cells := 0, slots := 0, locals := 0 } : Room) D dT [.ref (a 0)] ([wRd dT a h_village h_friends h_picks h_keeps bt v, [(bt, .inl (dT 2, nt, .inl ut))]]) ([wRd dT a h_village h_friends h_picks h_keeps bt v, [(bt, .inl (dT 2, nt, .inl ut))]]) res := by
  refine CTi.of (by decide) (Nat.le_of_ble_eq_true rfl) rfl ?_
  intro p e s m args below meth c A C
  unfold f_X6_numberTold at hf
  refine wa_iconst (v := 0) C 1 dX6_numberTold_0 rfl rfl ?_
  refine wa_istore_n (lv' := [(0, .ref (a 0)), (1, .int (0 : Int32))]) C [1, 0] 2 dX6_numberTold_1 rfl (Nat.le_of_ble_eq_true rfl) rfl ?_
  refine wa_aload_n C 0 3 dX6_numberTold_2 rfl rfl ?_
  refine wa_get C 6 0 0 6 dX6_numberTold_3 rfl iX6 q167 rfl (Nat.le_of_ble_eq_true rfl) rfl rfl rfl ?_
  obtain ⟨x1, ex1, hf⟩ := bnd_ex hf
  refine wa_topi ex1 ?_
  refine wa_istore_n (lv' := [(0, .ref (a 0)), (1, .int (0 : Int32)), (2, .int x1)]) C [1, 2, 0] 7 dX6_numberTold_6 rfl (Nat.le_of_ble_eq_true rfl) rfl ?_
  exact w_X6_numberTold_L7 C FUEL (0 : Int32) x1 hf
theorem kv_X6_82 : KV RX6 82 yX6_endOfRow cX6_endOfRow 4 (some .int) 2 := KV.mk q702 q704 qs14 q2 q705 ⟨by decide, by decide, by decide +kernel⟩
theorem kv_X6_86 : KV RX6 86 yX6_numberTold cX6_numberTold 3 (some .int) 0 := KV.mk q706 q708 qs15 q2 q709 ⟨by decide, by decide, by decide +kernel⟩
theorem kv_X6_91 : KV RX6 91 yJ0_indexOf_0f7a4 cJ0_indexOf_0f7a4 2 (some .int) 1 := KV.mk q711 q712 q713 q19 q714 ⟨by decide, by decide, by decide +kernel⟩
def f_X6_next_J171 (nt : Nat) (z1 : (Nat → Int32)) (l1 : Int32) (z0 : Ob) : Option (Ob) := (f_J0_indexOf_0f7a4 1 ((l1.toUInt32 % 65536).toInt32)).bind (fun q8 => (if q8 < 0 then bnd (upd z0.1 8 (3 : Int32), z0.2) (fun y11 => bnd (upd y11.1 7 ((y11.1 6) + (1 : Int32)), y11.2) (fun y12 => some (y12))) else bnd (upd z0.1 8 l1, z0.2) (fun y13 => bnd (upd y13.1 7 ((y13.1 6) + (1 : Int32)), y13.2) (fun y14 => some (y14)))))
def f_X6_next_J131 (nt : Nat) (z1 : (Nat → Int32)) (l1 : Int32) (z0 : Ob) : Option (Ob) := (if l1 < (48 : Int32) then f_X6_next_J171 nt z1 l1 z0 else (if (57 : Int32) < l1 then f_X6_next_J171 nt z1 l1 z0 else bnd (upd z0.1 8 (2 : Int32), z0.2) (fun y16 => (f_X6_endOfRow y16 z1 nt (48 : Int32) (57 : Int32)).bind (fun q17 => bnd (upd y16.1 7 q17, y16.2) (fun y19 => (f_X6_numberTold y19 z1 nt).bind (fun q20 => bnd (upd y19.1 9 q20, y19.2) (fun y22 => some (y22))))))))
def f_X6_next_J60 (nt : Nat) (z1 : (Nat → Int32)) (z0 : Ob) : Option (Ob) := (if (z0.1 6) < (z0.1 5) then grd (vi (z0.1 6) nt) (bnd ((z1 ((z0.1 6)).toNatClampNeg) &&& (255 : Int32)) (fun x5 => (if x5 < (97 : Int32) then f_X6_next_J131 nt z1 x5 z0 else (if (122 : Int32) < x5 then f_X6_next_J131 nt z1 x5 z0 else bnd (upd z0.1 8 (1 : Int32), z0.2) (fun y24 => (f_X6_endOfRow y24 z1 nt (97 : Int32) (122 : Int32)).bind (fun q25 => bnd (upd y24.1 7 q25, y24.2) (fun y27 => some (y27)))))))) else bnd (upd z0.1 7 (z0.1 6), z0.2) (fun y28 => bnd (upd y28.1 8 (0 : Int32), y28.2) (fun y29 => some (y29))))
def f_X6_next_L8 (nt : Nat) (z1 : (Nat → Int32)) : Nat → Ob → Option (Ob)
  | 0, _ => none
  | n + 1, z0 => (if (z0.1 5) ≤ (z0.1 6) then f_X6_next_J60 nt z1 z0 else grd (vi (z0.1 6) nt) ((if (z1 ((z0.1 6)).toNatClampNeg) = (32 : Int32) then bnd (upd z0.1 6 ((z0.1 6) + (1 : Int32)), z0.2) (fun y32 => f_X6_next_L8 nt z1 n y32) else grd (vi (z0.1 6) nt) ((if (z1 ((z0.1 6)).toNatClampNeg) = (10 : Int32) then bnd (upd z0.1 6 ((z0.1 6) + (1 : Int32)), z0.2) (fun y35 => f_X6_next_L8 nt z1 n y35) else f_X6_next_J60 nt z1 z0)))))
def f_X6_next (v : Ob) (ut : (Nat → Int32)) (nt : Nat) : Option (Ob) := bnd (upd v.1 6 (v.1 7), v.2) (fun y1 => f_X6_next_L8 nt ut FUEL y1)
set_option maxRecDepth 20000 in
theorem w_X6_next_J171 {p : Program} {l : Launch} {e : Env} {s : State} {m : MethodId} {args : Array Value} {below : List Frame} {meth : Method} {c : Code} {D : va_G} {A : Nat → Prop} {dT : Nat → ClassId} {a : Nat → Nat} {bt : Nat} {h_village : Nat} {h_friends : Nat} {h_picks : Nat} {h_keeps : Nat} {aK aV : Nat → Nat} {nt : Nat} {res : Ob} {z1 : (Nat → Int32)} (C : Cx p s m args meth c cX6_next 2 RX6 none D A dT) (E : AMB aK aV A s s.heap) : ∀ (l1 : Int32) (z0 : Ob), f_X6_next_J171 nt z1 l1 z0 = some res → WA p l e ({ frames := 6, cells := 0, slots := 0, locals := 126 } : Room) s m args below meth c (MQ below (QV D dT A ([wRd dT a h_village h_friends h_picks h_keeps bt res, [(bt, .inl (dT 2, nt, .inl z1))]])) args s 0 0 A) D A 0 0 2 171 ([wRd dT a h_village h_friends h_picks h_keeps bt z0, [(bt, .inl (dT 2, nt, .inl z1))]]) [(0, .ref (a 0)), (1, .int l1)] [] := by
  intro l1 z0 hf
  unfold f_X6_next_J171 at hf
  refine wa_aload_n C 0 172 dX6_next_171 rfl rfl ?_
  refine wa_ldcS C E 1 174 dX6_next_172 rfl rfl ?_
  refine wa_iload_n C 1 175 dX6_next_174 rfl rfl ?_
  refine wa_i2c C 176 dX6_next_175 rfl ?_
  obtain ⟨q8, hq8, hf⟩ := bind_ex hf
  refine we_callV0i (As := [.int ((l1.toUInt32 % 65536).toInt32)]) C E 179 dX6_next_176 rfl kv_X6_91 (c_J0_indexOf_0f7a4 hq8) ⟨rfl, rfl⟩ ⟨Nat.le_of_ble_eq_true rfl, Nat.le_of_ble_eq_true rfl⟩ (rv_str E (Nat.le_of_ble_eq_true rfl) rfl) rfl rfl ⟨Nat.zero_le _, Nat.zero_le _⟩ (Nat.le_of_ble_eq_true rfl) ?_
  refine wa_if_lt C 186 182 dX6_next_179 rfl rfl (fun c10 => ?_) (fun c10 => ?_)
  · replace hf := ite_t hf c10
    refine wa_iconst (v := 3) C 187 dX6_next_186 rfl rfl ?_
    obtain ⟨y11, ey11, hf⟩ := bnd_ex hf
    refine wa_put (ws' := [wRd dT a h_village h_friends h_picks h_keeps bt y11, [(bt, .inl (dT 2, nt, .inl z1))]]) C 190 0 0 8 tyX6 dX6_next_187 rfl iX6 tyX6_ok nmX6 q169 rfl (Nat.le_of_ble_eq_true rfl) rfl rfl rfl rfl rfl (Nat.le_of_ble_eq_true rfl) (by rw [ey11]; rfl) ?_
    refine wa_aload_n C 0 191 dX6_next_190 rfl rfl ?_
    refine wa_aload_n C 0 192 dX6_next_191 rfl rfl ?_
    refine wa_get C 195 0 0 6 dX6_next_192 rfl iX6 q167 rfl (Nat.le_of_ble_eq_true rfl) rfl rfl rfl ?_
    refine wa_iconst (v := 1) C 196 dX6_next_195 rfl rfl ?_
    refine wa_iadd C 197 dX6_next_196 rfl ?_
    obtain ⟨y12, ey12, hf⟩ := bnd_ex hf
    refine wa_put (ws' := [wRd dT a h_village h_friends h_picks h_keeps bt y12, [(bt, .inl (dT 2, nt, .inl z1))]]) C 200 0 0 7 tyX6 dX6_next_197 rfl iX6 tyX6_ok nmX6 q168 rfl (Nat.le_of_ble_eq_true rfl) rfl rfl rfl rfl rfl (Nat.le_of_ble_eq_true rfl) (by rw [ey12]; rfl) ?_
    cases hf
    exact wa_vret C dX6_next_200 rfl
  · replace hf := ite_f hf c10
    refine wa_iload_n C 1 183 dX6_next_182 rfl rfl ?_
    refine wa_goto C 187 dX6_next_183 rfl ?_
    obtain ⟨y13, ey13, hf⟩ := bnd_ex hf
    refine wa_put (ws' := [wRd dT a h_village h_friends h_picks h_keeps bt y13, [(bt, .inl (dT 2, nt, .inl z1))]]) C 190 0 0 8 tyX6 dX6_next_187 rfl iX6 tyX6_ok nmX6 q169 rfl (Nat.le_of_ble_eq_true rfl) rfl rfl rfl rfl rfl (Nat.le_of_ble_eq_true rfl) (by rw [ey13]; rfl) ?_
    refine wa_aload_n C 0 191 dX6_next_190 rfl rfl ?_
    refine wa_aload_n C 0 192 dX6_next_191 rfl rfl ?_
    refine wa_get C 195 0 0 6 dX6_next_192 rfl iX6 q167 rfl (Nat.le_of_ble_eq_true rfl) rfl rfl rfl ?_
    refine wa_iconst (v := 1) C 196 dX6_next_195 rfl rfl ?_
    refine wa_iadd C 197 dX6_next_196 rfl ?_
    obtain ⟨y14, ey14, hf⟩ := bnd_ex hf
    refine wa_put (ws' := [wRd dT a h_village h_friends h_picks h_keeps bt y14, [(bt, .inl (dT 2, nt, .inl z1))]]) C 200 0 0 7 tyX6 dX6_next_197 rfl iX6 tyX6_ok nmX6 q168 rfl (Nat.le_of_ble_eq_true rfl) rfl rfl rfl rfl rfl (Nat.le_of_ble_eq_true rfl) (by rw [ey14]; rfl) ?_
    cases hf
    exact wa_vret C dX6_next_200 rfl
set_option maxRecDepth 20000 in
theorem w_X6_next_J131 {p : Program} {l : Launch} {e : Env} {s : State} {m : MethodId} {args : Array Value} {below : List Frame} {meth : Method} {c : Code} {D : va_G} {A : Nat → Prop} {dT : Nat → ClassId} {a : Nat → Nat} {bt : Nat} {h_village : Nat} {h_friends : Nat} {h_picks : Nat} {h_keeps : Nat} {aK aV : Nat → Nat} {nt : Nat} {res : Ob} {z1 : (Nat → Int32)} (C : Cx p s m args meth c cX6_next 2 RX6 none D A dT) (E : AMB aK aV A s s.heap) : ∀ (l1 : Int32) (z0 : Ob), f_X6_next_J131 nt z1 l1 z0 = some res → WA p l e ({ frames := 6, cells := 0, slots := 0, locals := 126 } : Room) s m args below meth c (MQ below (QV D dT A ([wRd dT a h_village h_friends h_picks h_keeps bt res, [(bt, .inl (dT 2, nt, .inl z1))]])) args s 0 0 A) D A 0 0 2 131 ([wRd dT a h_village h_friends h_picks h_keeps bt z0, [(bt, .inl (dT 2, nt, .inl z1))]]) [(0, .ref (a 0)), (1, .int l1)] [] := by
  intro l1 z0 hf
  unfold f_X6_next_J131 at hf
  refine wa_iload_n C 1 132 dX6_next_131 rfl rfl ?_
  refine wa_bipush (v := 48) C 134 dX6_next_132 rfl rfl ?_
  refine wa_icmp_lt C 171 137 dX6_next_134 rfl rfl (fun c7 => ?_) (fun c7 => ?_)
  · replace hf := ite_t hf c7
    exact w_X6_next_J171 C E l1 z0 hf
  · replace hf := ite_f hf c7
    refine wa_iload_n C 1 138 dX6_next_137 rfl rfl ?_
    refine wa_bipush (v := 57) C 140 dX6_next_138 rfl rfl ?_
    refine wa_icmp_gt C 171 143 dX6_next_140 rfl rfl (fun c15 => ?_) (fun c15 => ?_)
    · replace hf := ite_t hf c15
      exact w_X6_next_J171 C E l1 z0 hf
    · replace hf := ite_f hf c15
      refine wa_aload_n C 0 144 dX6_next_143 rfl rfl ?_
      refine wa_iconst (v := 2) C 145 dX6_next_144 rfl rfl ?_
      obtain ⟨y16, ey16, hf⟩ := bnd_ex hf
      refine wa_put (ws' := [wRd dT a h_village h_friends h_picks h_keeps bt y16, [(bt, .inl (dT 2, nt, .inl z1))]]) C 148 0 0 8 tyX6 dX6_next_145 rfl iX6 tyX6_ok nmX6 q169 rfl (Nat.le_of_ble_eq_true rfl) rfl rfl rfl rfl rfl (Nat.le_of_ble_eq_true rfl) (by rw [ey16]; rfl) ?_
      refine wa_aload_n C 0 149 dX6_next_148 rfl rfl ?_
      refine wa_aload_n C 0 150 dX6_next_149 rfl rfl ?_
      refine wa_bipush (v := 48) C 152 dX6_next_150 rfl rfl ?_
      refine wa_bipush (v := 57) C 154 dX6_next_152 rfl rfl ?_
      obtain ⟨q17, hq17, hf⟩ := bind_ex hf
      refine wa_callVAi (b1 := 0) (q1 := 0) (ci := 6) (As := [.int (48 : Int32), .int (57 : Int32)]) C 157 dX6_next_154 rfl kv_X6_82 (c_X6_endOfRow hq17) ⟨rfl, rfl⟩ ⟨Nat.le_of_ble_eq_true rfl, Nat.le_of_ble_eq_true rfl⟩ rfl rfl rfl rfl rfl ⟨Nat.zero_le _, Nat.zero_le _⟩ (Nat.le_of_ble_eq_true rfl) ?_
      obtain ⟨y19, ey19, hf⟩ := bnd_ex hf
      refine wa_put (ws' := [wRd dT a h_village h_friends h_picks h_keeps bt y19, [(bt, .inl (dT 2, nt, .inl z1))]]) C 160 0 0 7 tyX6 dX6_next_157 rfl iX6 tyX6_ok nmX6 q168 rfl (Nat.le_of_ble_eq_true rfl) rfl rfl rfl rfl rfl (Nat.le_of_ble_eq_true rfl) (by rw [ey19]; rfl) ?_
      refine wa_aload_n C 0 161 dX6_next_160 rfl rfl ?_
      refine wa_aload_n C 0 162 dX6_next_161 rfl rfl ?_
      obtain ⟨q20, hq20, hf⟩ := bind_ex hf
      refine wa_callVAi (b1 := 0) (q1 := 0) (ci := 6) (As := []) C 165 dX6_next_162 rfl kv_X6_86 (c_X6_numberTold hq20) ⟨rfl, rfl⟩ ⟨Nat.le_of_ble_eq_true rfl, Nat.le_of_ble_eq_true rfl⟩ rfl rfl rfl rfl rfl ⟨Nat.zero_le _, Nat.zero_le _⟩ (Nat.le_of_ble_eq_true rfl) ?_
      obtain ⟨y22, ey22, hf⟩ := bnd_ex hf
      refine wa_put (ws' := [wRd dT a h_village h_friends h_picks h_keeps bt y22, [(bt, .inl (dT 2, nt, .inl z1))]]) C 168 0 0 9 tyX6 dX6_next_165 rfl iX6 tyX6_ok nmX6 q170 rfl (Nat.le_of_ble_eq_true rfl) rfl rfl rfl rfl rfl (Nat.le_of_ble_eq_true rfl) (by rw [ey22]; rfl) ?_
      refine wa_goto C 200 dX6_next_168 rfl ?_
      cases hf
      exact wa_vret C dX6_next_200 rfl
set_option maxRecDepth 20000 in
theorem w_X6_next_J60 {p : Program} {l : Launch} {e : Env} {s : State} {m : MethodId} {args : Array Value} {below : List Frame} {meth : Method} {c : Code} {D : va_G} {A : Nat → Prop} {dT : Nat → ClassId} {a : Nat → Nat} {bt : Nat} {h_village : Nat} {h_friends : Nat} {h_picks : Nat} {h_keeps : Nat} {aK aV : Nat → Nat} {nt : Nat} {res : Ob} {z1 : (Nat → Int32)} (C : Cx p s m args meth c cX6_next 2 RX6 none D A dT) (E : AMB aK aV A s s.heap) : ∀ (z0 : Ob), f_X6_next_J60 nt z1 z0 = some res → WA p l e ({ frames := 6, cells := 0, slots := 0, locals := 126 } : Room) s m args below meth c (MQ below (QV D dT A ([wRd dT a h_village h_friends h_picks h_keeps bt res, [(bt, .inl (dT 2, nt, .inl z1))]])) args s 0 0 A) D A 0 0 2 60 ([wRd dT a h_village h_friends h_picks h_keeps bt z0, [(bt, .inl (dT 2, nt, .inl z1))]]) [(0, .ref (a 0))] [] := by
  intro z0 hf
  unfold f_X6_next_J60 at hf
  refine wa_aload_n C 0 61 dX6_next_60 rfl rfl ?_
  refine wa_get C 64 0 0 6 dX6_next_61 rfl iX6 q167 rfl (Nat.le_of_ble_eq_true rfl) rfl rfl rfl ?_
  refine wa_aload_n C 0 65 dX6_next_64 rfl rfl ?_
  refine wa_get C 68 0 0 5 dX6_next_65 rfl iX6 q166 rfl (Nat.le_of_ble_eq_true rfl) rfl rfl rfl ?_
  refine wa_icmp_lt C 85 71 dX6_next_68 rfl rfl (fun c3 => ?_) (fun c3 => ?_)
  · replace hf := ite_t hf c3
    refine wa_aload_n C 0 86 dX6_next_85 rfl rfl ?_
    refine wa_get C 89 0 0 4 dX6_next_86 rfl iX6 q165 rfl (Nat.le_of_ble_eq_true rfl) rfl rfl rfl ?_
    refine wa_aload_n C 0 90 dX6_next_89 rfl rfl ?_
    refine wa_get C 93 0 0 6 dX6_next_90 rfl iX6 q167 rfl (Nat.le_of_ble_eq_true rfl) rfl rfl rfl ?_
    obtain ⟨g4, hf⟩ := grd_ex hf
    refine wa_bald C 94 1 0 dX6_next_93 rfl rfl rfl (vi_in g4) ?_
    refine wa_sipush (v := 255) C 97 dX6_next_94 rfl rfl ?_
    refine wa_iand C 98 dX6_next_97 rfl ?_
    obtain ⟨x5, ex5, hf⟩ := bnd_ex hf
    refine wa_topi ex5 ?_
    refine wa_istore_n (lv' := [(0, .ref (a 0)), (1, .int x5)]) C [1, 0] 99 dX6_next_98 rfl (Nat.le_of_ble_eq_true rfl) rfl ?_
    refine wa_iload_n C 1 100 dX6_next_99 rfl rfl ?_
    refine wa_bipush (v := 97) C 102 dX6_next_100 rfl rfl ?_
    refine wa_icmp_lt C 131 105 dX6_next_102 rfl rfl (fun c6 => ?_) (fun c6 => ?_)
    · replace hf := ite_t hf c6
      exact w_X6_next_J131 C E x5 z0 hf
    · replace hf := ite_f hf c6
      refine wa_iload_n C 1 106 dX6_next_105 rfl rfl ?_
      refine wa_bipush (v := 122) C 108 dX6_next_106 rfl rfl ?_
      refine wa_icmp_gt C 131 111 dX6_next_108 rfl rfl (fun c23 => ?_) (fun c23 => ?_)
      · replace hf := ite_t hf c23
        exact w_X6_next_J131 C E x5 z0 hf
      · replace hf := ite_f hf c23
        refine wa_aload_n C 0 112 dX6_next_111 rfl rfl ?_
        refine wa_iconst (v := 1) C 113 dX6_next_112 rfl rfl ?_
        obtain ⟨y24, ey24, hf⟩ := bnd_ex hf
        refine wa_put (ws' := [wRd dT a h_village h_friends h_picks h_keeps bt y24, [(bt, .inl (dT 2, nt, .inl z1))]]) C 116 0 0 8 tyX6 dX6_next_113 rfl iX6 tyX6_ok nmX6 q169 rfl (Nat.le_of_ble_eq_true rfl) rfl rfl rfl rfl rfl (Nat.le_of_ble_eq_true rfl) (by rw [ey24]; rfl) ?_
        refine wa_aload_n C 0 117 dX6_next_116 rfl rfl ?_
        refine wa_aload_n C 0 118 dX6_next_117 rfl rfl ?_
        refine wa_bipush (v := 97) C 120 dX6_next_118 rfl rfl ?_
        refine wa_bipush (v := 122) C 122 dX6_next_120 rfl rfl ?_
        obtain ⟨q25, hq25, hf⟩ := bind_ex hf
        refine wa_callVAi (b1 := 0) (q1 := 0) (ci := 6) (As := [.int (97 : Int32), .int (122 : Int32)]) C 125 dX6_next_122 rfl kv_X6_82 (c_X6_endOfRow hq25) ⟨rfl, rfl⟩ ⟨Nat.le_of_ble_eq_true rfl, Nat.le_of_ble_eq_true rfl⟩ rfl rfl rfl rfl rfl ⟨Nat.zero_le _, Nat.zero_le _⟩ (Nat.le_of_ble_eq_true rfl) ?_
        obtain ⟨y27, ey27, hf⟩ := bnd_ex hf
        refine wa_put (ws' := [wRd dT a h_village h_friends h_picks h_keeps bt y27, [(bt, .inl (dT 2, nt, .inl z1))]]) C 128 0 0 7 tyX6 dX6_next_125 rfl iX6 tyX6_ok nmX6 q168 rfl (Nat.le_of_ble_eq_true rfl) rfl rfl rfl rfl rfl (Nat.le_of_ble_eq_true rfl) (by rw [ey27]; rfl) ?_
        refine wa_goto C 200 dX6_next_128 rfl ?_
        cases hf
        exact wa_vret C dX6_next_200 rfl
  · replace hf := ite_f hf c3
    refine wa_aload_n C 0 72 dX6_next_71 rfl rfl ?_
    refine wa_aload_n C 0 73 dX6_next_72 rfl rfl ?_
    refine wa_get C 76 0 0 6 dX6_next_73 rfl iX6 q167 rfl (Nat.le_of_ble_eq_true rfl) rfl rfl rfl ?_
    obtain ⟨y28, ey28, hf⟩ := bnd_ex hf
    refine wa_put (ws' := [wRd dT a h_village h_friends h_picks h_keeps bt y28, [(bt, .inl (dT 2, nt, .inl z1))]]) C 79 0 0 7 tyX6 dX6_next_76 rfl iX6 tyX6_ok nmX6 q168 rfl (Nat.le_of_ble_eq_true rfl) rfl rfl rfl rfl rfl (Nat.le_of_ble_eq_true rfl) (by rw [ey28]; rfl) ?_
    refine wa_aload_n C 0 80 dX6_next_79 rfl rfl ?_
    refine wa_iconst (v := 0) C 81 dX6_next_80 rfl rfl ?_
    obtain ⟨y29, ey29, hf⟩ := bnd_ex hf
    refine wa_put (ws' := [wRd dT a h_village h_friends h_picks h_keeps bt y29, [(bt, .inl (dT 2, nt, .inl z1))]]) C 84 0 0 8 tyX6 dX6_next_81 rfl iX6 tyX6_ok nmX6 q169 rfl (Nat.le_of_ble_eq_true rfl) rfl rfl rfl rfl rfl (Nat.le_of_ble_eq_true rfl) (by rw [ey29]; rfl) ?_
    cases hf
    exact wa_vret C dX6_next_84 rfl
set_option maxRecDepth 20000 in
theorem w_X6_next_L8 {p : Program} {l : Launch} {e : Env} {s : State} {m : MethodId} {args : Array Value} {below : List Frame} {meth : Method} {c : Code} {D : va_G} {A : Nat → Prop} {dT : Nat → ClassId} {a : Nat → Nat} {bt : Nat} {h_village : Nat} {h_friends : Nat} {h_picks : Nat} {h_keeps : Nat} {aK aV : Nat → Nat} {nt : Nat} {res : Ob} {z1 : (Nat → Int32)} (C : Cx p s m args meth c cX6_next 2 RX6 none D A dT) (E : AMB aK aV A s s.heap) : ∀ (n : Nat) (z0 : Ob), f_X6_next_L8 nt z1 n z0 = some res → WA p l e ({ frames := 6, cells := 0, slots := 0, locals := 126 } : Room) s m args below meth c (MQ below (QV D dT A ([wRd dT a h_village h_friends h_picks h_keeps bt res, [(bt, .inl (dT 2, nt, .inl z1))]])) args s 0 0 A) D A 0 0 2 8 ([wRd dT a h_village h_friends h_picks h_keeps bt z0, [(bt, .inl (dT 2, nt, .inl z1))]]) [(0, .ref (a 0))] [] := by
  intro n
  induction n with
  | zero => intro z0 hf; cases hf
  | succ n ih =>
    intro z0 hf
    unfold f_X6_next_L8 at hf
    refine wa_aload_n C 0 9 dX6_next_8 rfl rfl ?_
    refine wa_get C 12 0 0 6 dX6_next_9 rfl iX6 q167 rfl (Nat.le_of_ble_eq_true rfl) rfl rfl rfl ?_
    refine wa_aload_n C 0 13 dX6_next_12 rfl rfl ?_
    refine wa_get C 16 0 0 5 dX6_next_13 rfl iX6 q166 rfl (Nat.le_of_ble_eq_true rfl) rfl rfl rfl ?_
    refine wa_icmp_ge C 60 19 dX6_next_16 rfl rfl (fun c2 => ?_) (fun c2 => ?_)
    · replace hf := ite_t hf c2
      exact w_X6_next_J60 C E z0 hf
    · replace hf := ite_f hf c2
      refine wa_aload_n C 0 20 dX6_next_19 rfl rfl ?_
      refine wa_get C 23 0 0 4 dX6_next_20 rfl iX6 q165 rfl (Nat.le_of_ble_eq_true rfl) rfl rfl rfl ?_
      refine wa_aload_n C 0 24 dX6_next_23 rfl rfl ?_
      refine wa_get C 27 0 0 6 dX6_next_24 rfl iX6 q167 rfl (Nat.le_of_ble_eq_true rfl) rfl rfl rfl ?_
      obtain ⟨g30, hf⟩ := grd_ex hf
      refine wa_bald C 28 1 0 dX6_next_27 rfl rfl rfl (vi_in g30) ?_
      refine wa_bipush (v := 32) C 30 dX6_next_28 rfl rfl ?_
      refine wa_icmp_eq C 47 33 dX6_next_30 rfl rfl (fun c31 => ?_) (fun c31 => ?_)
      · replace hf := ite_t hf c31
        refine wa_aload_n C 0 48 dX6_next_47 rfl rfl ?_
        refine wa_dup C 49 dX6_next_48 rfl rfl ?_
        refine wa_get C 52 0 0 6 dX6_next_49 rfl iX6 q167 rfl (Nat.le_of_ble_eq_true rfl) rfl rfl rfl ?_
        refine wa_iconst (v := 1) C 53 dX6_next_52 rfl rfl ?_
        refine wa_iadd C 54 dX6_next_53 rfl ?_
        obtain ⟨y32, ey32, hf⟩ := bnd_ex hf
        refine wa_put (ws' := [wRd dT a h_village h_friends h_picks h_keeps bt y32, [(bt, .inl (dT 2, nt, .inl z1))]]) C 57 0 0 6 tyX6 dX6_next_54 rfl iX6 tyX6_ok nmX6 q167 rfl (Nat.le_of_ble_eq_true rfl) rfl rfl rfl rfl rfl (Nat.le_of_ble_eq_true rfl) (by rw [ey32]; rfl) ?_
        refine wa_goto C 8 dX6_next_57 rfl ?_
        exact ih y32 hf
      · replace hf := ite_f hf c31
        refine wa_aload_n C 0 34 dX6_next_33 rfl rfl ?_
        refine wa_get C 37 0 0 4 dX6_next_34 rfl iX6 q165 rfl (Nat.le_of_ble_eq_true rfl) rfl rfl rfl ?_
        refine wa_aload_n C 0 38 dX6_next_37 rfl rfl ?_
        refine wa_get C 41 0 0 6 dX6_next_38 rfl iX6 q167 rfl (Nat.le_of_ble_eq_true rfl) rfl rfl rfl ?_
        obtain ⟨g33, hf⟩ := grd_ex hf
        refine wa_bald C 42 1 0 dX6_next_41 rfl rfl rfl (vi_in g33) ?_
        refine wa_bipush (v := 10) C 44 dX6_next_42 rfl rfl ?_
        refine wa_icmp_ne C 60 47 dX6_next_44 rfl rfl (fun c34 => ?_) (fun c34 => ?_)
        · replace hf := ite_f hf c34
          exact w_X6_next_J60 C E z0 hf
        · replace hf := ite_t hf c34
          refine wa_aload_n C 0 48 dX6_next_47 rfl rfl ?_
          refine wa_dup C 49 dX6_next_48 rfl rfl ?_
          refine wa_get C 52 0 0 6 dX6_next_49 rfl iX6 q167 rfl (Nat.le_of_ble_eq_true rfl) rfl rfl rfl ?_
          refine wa_iconst (v := 1) C 53 dX6_next_52 rfl rfl ?_
          refine wa_iadd C 54 dX6_next_53 rfl ?_
          obtain ⟨y35, ey35, hf⟩ := bnd_ex hf
          refine wa_put (ws' := [wRd dT a h_village h_friends h_picks h_keeps bt y35, [(bt, .inl (dT 2, nt, .inl z1))]]) C 57 0 0 6 tyX6 dX6_next_54 rfl iX6 tyX6_ok nmX6 q167 rfl (Nat.le_of_ble_eq_true rfl) rfl rfl rfl rfl rfl (Nat.le_of_ble_eq_true rfl) (by rw [ey35]; rfl) ?_
          refine wa_goto C 8 dX6_next_57 rfl ?_
          exact ih y35 hf
set_option maxRecDepth 20000 in
theorem c_X6_next {l : Launch} {D : va_G} {dT : Nat → ClassId} {a : Nat → Nat} {bt : Nat} {h_village : Nat} {h_friends : Nat} {h_picks : Nat} {h_keeps : Nat} {aK aV : Nat → Nat} {nt : Nat} {v : Ob} {ut : (Nat → Int32)} {res : Ob} (hf : f_X6_next v ut nt = some res) : CEv aK aV l yX6_next cX6_next 2 none ({ frames := 6, cells := 0, slots := 0, locals := 126 } : Room) D dT [.ref (a 0)] ([wRd dT a h_village h_friends h_picks h_keeps bt v, [(bt, .inl (dT 2, nt, .inl ut))]]) ([wRd dT a h_village h_friends h_picks h_keeps bt res, [(bt, .inl (dT 2, nt, .inl ut))]]) := by
  refine CEv.of (by decide) (Nat.le_of_ble_eq_true rfl) rfl ?_
  intro p e s m args below meth c A C E
  unfold f_X6_next at hf
  refine wa_aload_n C 0 1 dX6_next_0 rfl rfl ?_
  refine wa_aload_n C 0 2 dX6_next_1 rfl rfl ?_
  refine wa_get C 5 0 0 7 dX6_next_2 rfl iX6 q168 rfl (Nat.le_of_ble_eq_true rfl) rfl rfl rfl ?_
  obtain ⟨y1, ey1, hf⟩ := bnd_ex hf
  refine wa_put (ws' := [wRd dT a h_village h_friends h_picks h_keeps bt y1, [(bt, .inl (dT 2, nt, .inl ut))]]) C 8 0 0 6 tyX6 dX6_next_5 rfl iX6 tyX6_ok nmX6 q167 rfl (Nat.le_of_ble_eq_true rfl) rfl rfl rfl rfl rfl (Nat.le_of_ble_eq_true rfl) (by rw [ey1]; rfl) ?_
  exact w_X6_next_L8 C E FUEL y1 hf
theorem kv_X6_97 : KV RX6 97 yJ0_length_8abf5 cJ0_length_8abf5 1 (some .int) 0 := KV.mk q804 q726 q727 q19 q728 ⟨by decide, by decide, by decide +kernel⟩
theorem kv_X6_99 : KV RX6 99 yJ0_charAt_5068e cJ0_charAt_5068e 2 (some .char) 1 := KV.mk q805 q806 q807 q19 q808 ⟨by decide, by decide, by decide +kernel⟩
def f_X6_isWord_L28 (nt : Nat) (i0 : Nat) (z0 : Ob) (z1 : (Nat → Int32)) : Nat → Int32 → Option (Int32)
  | 0, _ => none
  | n + 1, l2 => grd (decide (i0 < nS)) ((f_J0_length_8abf5 i0).bind (fun q7 => (if q7 ≤ l2 then some ((1 : Int32)) else grd (vi ((z0.1 6) + l2) nt) (grd (decide (i0 < nS)) ((f_J0_charAt_5068e i0 l2).bind (fun q12 => (if (z1 (((z0.1 6) + l2)).toNatClampNeg) = q12 then bnd (l2 + 1) (fun x15 => f_X6_isWord_L28 nt i0 z0 z1 n x15) else some ((0 : Int32)))))))))
def f_X6_isWord (v : Ob) (ut : (Nat → Int32)) (nt : Nat) (i0 : Nat) : Option (Int32) := (if (v.1 8) = (1 : Int32) then grd (decide (i0 < nS)) ((f_J0_length_8abf5 i0).bind (fun q3 => (if ((v.1 7) - (v.1 6)) = q3 then f_X6_isWord_L28 nt i0 v ut FUEL (0 : Int32) else some ((0 : Int32))))) else some ((0 : Int32)))
set_option maxRecDepth 20000 in
theorem w_X6_isWord_L28 {p : Program} {l : Launch} {e : Env} {s : State} {m : MethodId} {args : Array Value} {below : List Frame} {meth : Method} {c : Code} {D : va_G} {A : Nat → Prop} {dT : Nat → ClassId} {a : Nat → Nat} {bt : Nat} {h_village : Nat} {h_friends : Nat} {h_picks : Nat} {h_keeps : Nat} {aK aV : Nat → Nat} {nt : Nat} {i0 : Nat} {res : Int32} {z0 : Ob} {z1 : (Nat → Int32)} (C : Cx p s m args meth c cX6_isWord 3 RX6 (some .boolean) D A dT) (E : AMB aK aV A s s.heap) : ∀ (n : Nat) (l2 : Int32), f_X6_isWord_L28 nt i0 z0 z1 n l2 = some res → WA p l e ({ frames := 4, cells := 0, slots := 0, locals := 85 } : Room) s m args below meth c (MQ below (QI D dT A ([wRd dT a h_village h_friends h_picks h_keeps bt z0, [(bt, .inl (dT 2, nt, .inl z1))]]) res) args s 0 0 A) D A 0 0 3 28 ([wRd dT a h_village h_friends h_picks h_keeps bt z0, [(bt, .inl (dT 2, nt, .inl z1))]]) [(0, .ref (a 0)), (1, .ref (aK i0)), (2, .int l2)] [] := by
  intro n
  induction n with
  | zero => intro l2 hf; cases hf
  | succ n ih =>
    intro l2 hf
    unfold f_X6_isWord_L28 at hf
    refine wa_iload_n C 2 29 dX6_isWord_28 rfl rfl ?_
    refine wa_aload_n C 1 30 dX6_isWord_29 rfl rfl ?_
    obtain ⟨g6, hf⟩ := grd_ex hf
    obtain ⟨q7, hq7, hf⟩ := bind_ex hf
    refine we_callV0i (As := []) C E 33 dX6_isWord_30 rfl kv_X6_97 (c_J0_length_8abf5 hq7) ⟨rfl, rfl⟩ ⟨Nat.le_of_ble_eq_true rfl, Nat.le_of_ble_eq_true rfl⟩ (rv_str E (of_decide_eq_true g6) rfl) rfl rfl ⟨Nat.zero_le _, Nat.zero_le _⟩ (Nat.le_of_ble_eq_true rfl) ?_
    refine wa_icmp_ge C 63 36 dX6_isWord_33 rfl rfl (fun c9 => ?_) (fun c9 => ?_)
    · replace hf := ite_t hf c9
      refine wa_iconst (v := 1) C 64 dX6_isWord_63 rfl rfl ?_
      cases hf
      exact wa_zret C dX6_isWord_64 rfl rfl rfl
    · replace hf := ite_f hf c9
      refine wa_aload_n C 0 37 dX6_isWord_36 rfl rfl ?_
      refine wa_get C 40 0 0 4 dX6_isWord_37 rfl iX6 q165 rfl (Nat.le_of_ble_eq_true rfl) rfl rfl rfl ?_
      refine wa_aload_n C 0 41 dX6_isWord_40 rfl rfl ?_
      refine wa_get C 44 0 0 6 dX6_isWord_41 rfl iX6 q167 rfl (Nat.le_of_ble_eq_true rfl) rfl rfl rfl ?_
      refine wa_iload_n C 2 45 dX6_isWord_44 rfl rfl ?_
      refine wa_iadd C 46 dX6_isWord_45 rfl ?_
      obtain ⟨g10, hf⟩ := grd_ex hf
      refine wa_bald C 47 1 0 dX6_isWord_46 rfl rfl rfl (vi_in g10) ?_
      refine wa_aload_n C 1 48 dX6_isWord_47 rfl rfl ?_
      refine wa_iload_n C 2 49 dX6_isWord_48 rfl rfl ?_
      obtain ⟨g11, hf⟩ := grd_ex hf
      obtain ⟨q12, hq12, hf⟩ := bind_ex hf
      refine we_callV0i (As := [.int l2]) C E 52 dX6_isWord_49 rfl kv_X6_99 (c_J0_charAt_5068e hq12) ⟨rfl, rfl⟩ ⟨Nat.le_of_ble_eq_true rfl, Nat.le_of_ble_eq_true rfl⟩ (rv_str E (of_decide_eq_true g11) rfl) rfl rfl ⟨Nat.zero_le _, Nat.zero_le _⟩ (Nat.le_of_ble_eq_true rfl) ?_
      refine wa_icmp_eq C 57 55 dX6_isWord_52 rfl rfl (fun c14 => ?_) (fun c14 => ?_)
      · replace hf := ite_t hf c14
        obtain ⟨x15, ex15, hf⟩ := bnd_ex hf
        refine wa_iinc (v := x15) (lv' := [(0, .ref (a 0)), (1, .ref (aK i0)), (2, .int x15)]) C 2 [1, 2, 0] 60 dX6_isWord_57 rfl rfl (by rw [ex15]; rfl) (Nat.le_of_ble_eq_true rfl) rfl ?_
        refine wa_goto C 28 dX6_isWord_60 rfl ?_
        exact ih x15 hf
      · replace hf := ite_f hf c14
        refine wa_iconst (v := 0) C 56 dX6_isWord_55 rfl rfl ?_
        cases hf
        exact wa_zret C dX6_isWord_56 rfl rfl rfl
set_option maxRecDepth 20000 in
theorem c_X6_isWord {l : Launch} {D : va_G} {dT : Nat → ClassId} {a : Nat → Nat} {bt : Nat} {h_village : Nat} {h_friends : Nat} {h_picks : Nat} {h_keeps : Nat} {aK aV : Nat → Nat} {nt : Nat} {v : Ob} {ut : (Nat → Int32)} {i0 : Nat} {res : Int32} (hf : f_X6_isWord v ut nt i0 = some res) : CEi aK aV l yX6_isWord cX6_isWord 3 (some .boolean) ({ frames := 4, cells := 0, slots := 0, locals := 85 } : Room) D dT [.ref (a 0), .ref (aK i0)] ([wRd dT a h_village h_friends h_picks h_keeps bt v, [(bt, .inl (dT 2, nt, .inl ut))]]) ([wRd dT a h_village h_friends h_picks h_keeps bt v, [(bt, .inl (dT 2, nt, .inl ut))]]) res := by
  refine CEi.of (by decide) (Nat.le_of_ble_eq_true rfl) rfl ?_
  intro p e s m args below meth c A C E
  unfold f_X6_isWord at hf
  refine wa_aload_n C 0 1 dX6_isWord_0 rfl rfl ?_
  refine wa_get C 4 0 0 8 dX6_isWord_1 rfl iX6 q169 rfl (Nat.le_of_ble_eq_true rfl) rfl rfl rfl ?_
  refine wa_iconst (v := 1) C 5 dX6_isWord_4 rfl rfl ?_
  refine wa_icmp_ne C 24 8 dX6_isWord_5 rfl rfl (fun c1 => ?_) (fun c1 => ?_)
  · replace hf := ite_f hf c1
    refine wa_iconst (v := 0) C 25 dX6_isWord_24 rfl rfl ?_
    cases hf
    exact wa_zret C dX6_isWord_25 rfl rfl rfl
  · replace hf := ite_t hf c1
    refine wa_aload_n C 0 9 dX6_isWord_8 rfl rfl ?_
    refine wa_get C 12 0 0 7 dX6_isWord_9 rfl iX6 q168 rfl (Nat.le_of_ble_eq_true rfl) rfl rfl rfl ?_
    refine wa_aload_n C 0 13 dX6_isWord_12 rfl rfl ?_
    refine wa_get C 16 0 0 6 dX6_isWord_13 rfl iX6 q167 rfl (Nat.le_of_ble_eq_true rfl) rfl rfl rfl ?_
    refine wa_isub C 17 dX6_isWord_16 rfl ?_
    refine wa_aload_n C 1 18 dX6_isWord_17 rfl rfl ?_
    obtain ⟨g2, hf⟩ := grd_ex hf
    obtain ⟨q3, hq3, hf⟩ := bind_ex hf
    refine we_callV0i (As := []) C E 21 dX6_isWord_18 rfl kv_X6_97 (c_J0_length_8abf5 hq3) ⟨rfl, rfl⟩ ⟨Nat.le_of_ble_eq_true rfl, Nat.le_of_ble_eq_true rfl⟩ (rv_str E (of_decide_eq_true g2) rfl) rfl rfl ⟨Nat.zero_le _, Nat.zero_le _⟩ (Nat.le_of_ble_eq_true rfl) ?_
    refine wa_icmp_eq C 26 24 dX6_isWord_21 rfl rfl (fun c5 => ?_) (fun c5 => ?_)
    · replace hf := ite_t hf c5
      refine wa_iconst (v := 0) C 27 dX6_isWord_26 rfl rfl ?_
      refine wa_istore_n (lv' := [(0, .ref (a 0)), (1, .ref (aK i0)), (2, .int (0 : Int32))]) C [1, 2, 0] 28 dX6_isWord_27 rfl (Nat.le_of_ble_eq_true rfl) rfl ?_
      exact w_X6_isWord_L28 C E FUEL (0 : Int32) hf
    · replace hf := ite_f hf c5
      refine wa_iconst (v := 0) C 25 dX6_isWord_24 rfl rfl ?_
      cases hf
      exact wa_zret C dX6_isWord_25 rfl rfl rfl
theorem kv_X6_72 : KV RX6 72 yX6_next cX6_next 2 none 0 := KV.mk q698 q700 qs13 q2 q701 ⟨by decide, by decide, by decide +kernel⟩
def f_X6_lineEnd (v : Ob) (ut : (Nat → Int32)) (nt : Nat) : Option (Int32 × Ob) := (if (v.1 8) = (59 : Int32) then (f_X6_next v ut nt).bind (fun q2 => some ((0 : Int32), q2)) else some ((1 : Int32), v))
set_option maxRecDepth 20000 in
theorem c_X6_lineEnd {l : Launch} {D : va_G} {dT : Nat → ClassId} {a : Nat → Nat} {bt : Nat} {h_village : Nat} {h_friends : Nat} {h_picks : Nat} {h_keeps : Nat} {aK aV : Nat → Nat} {nt : Nat} {v : Ob} {ut : (Nat → Int32)} {res : Int32 × Ob} (hf : f_X6_lineEnd v ut nt = some res) : CEi aK aV l yX6_lineEnd cX6_lineEnd 1 (some .int) ({ frames := 7, cells := 0, slots := 0, locals := 147 } : Room) D dT [.ref (a 0)] ([wRd dT a h_village h_friends h_picks h_keeps bt v, [(bt, .inl (dT 2, nt, .inl ut))]]) ([wRd dT a h_village h_friends h_picks h_keeps bt res.2, [(bt, .inl (dT 2, nt, .inl ut))]]) res.1 := by
  refine CEi.of (by decide) (Nat.le_of_ble_eq_true rfl) rfl ?_
  intro p e s m args below meth c A C E
  unfold f_X6_lineEnd at hf
  refine wa_aload_n C 0 1 dX6_lineEnd_0 rfl rfl ?_
  refine wa_get C 4 0 0 8 dX6_lineEnd_1 rfl iX6 q169 rfl (Nat.le_of_ble_eq_true rfl) rfl rfl rfl ?_
  refine wa_bipush (v := 59) C 6 dX6_lineEnd_4 rfl rfl ?_
  refine wa_icmp_eq C 11 9 dX6_lineEnd_6 rfl rfl (fun c1 => ?_) (fun c1 => ?_)
  · replace hf := ite_t hf c1
    refine wa_aload_n C 0 12 dX6_lineEnd_11 rfl rfl ?_
    obtain ⟨q2, hq2, hf⟩ := bind_ex hf
    refine we_callVv (ws' := [wRd dT a h_village h_friends h_picks h_keeps bt q2, [(bt, .inl (dT 2, nt, .inl ut))]]) (As := []) C E 15 dX6_lineEnd_12 rfl kv_X6_72 (c_X6_next hq2) ⟨rfl, rfl⟩ ⟨Nat.le_of_ble_eq_true rfl, Nat.le_of_ble_eq_true rfl⟩ (rv_obj (ci := 6) C 0 0 rfl rfl rfl) [0, 1] [] [0, 1] rfl rfl rfl rfl (by decide) rfl rfl rfl rfl ⟨Nat.zero_le _, Nat.zero_le _⟩ (Nat.le_of_ble_eq_true rfl) ?_
    refine wa_iconst (v := 0) C 16 dX6_lineEnd_15 rfl rfl ?_
    cases hf
    exact wa_iret C dX6_lineEnd_16 rfl rfl
  · replace hf := ite_f hf c1
    refine wa_iconst (v := 1) C 10 dX6_lineEnd_9 rfl rfl ?_
    cases hf
    exact wa_iret C dX6_lineEnd_10 rfl rfl
def f_X6_toldPerson (v : Ob) (v_v : Ob) : Option (Int32) := (if (v.1 8) = (2 : Int32) then (if ((v.1 7) - (v.1 6)) ≤ (4 : Int32) then (if (v.1 9) < (v_v.1 0) then some ((0 : Int32)) else some ((3 : Int32))) else some ((2 : Int32))) else some ((1 : Int32)))
set_option maxRecDepth 20000 in
theorem c_X6_toldPerson {l : Launch} {D : va_G} {dT : Nat → ClassId} {a : Nat → Nat} {a_v : Nat → Nat} {h_friends : Nat} {h_picks : Nat} {h_keeps : Nat} {tx : Nat} {v : Ob} {v_v : Ob} {res : Int32} (hf : f_X6_toldPerson v v_v = some res) : CTi l yX6_toldPerson cX6_toldPerson 1 (some .int) ({ frames := 0, cells := 0, slots := 0, locals := 0 } : Room) D dT [.ref (a 0)] ([wRd dT a (a_v 0) h_friends h_picks h_keeps tx v, wV dT a_v v_v]) ([wRd dT a (a_v 0) h_friends h_picks h_keeps tx v, wV dT a_v v_v]) res := by
  refine CTi.of (by decide) (Nat.le_of_ble_eq_true rfl) rfl ?_
  intro p e s m args below meth c A C
  unfold f_X6_toldPerson at hf
  refine wa_aload_n C 0 1 dX6_toldPerson_0 rfl rfl ?_
  refine wa_get C 4 0 0 8 dX6_toldPerson_1 rfl iX6 q169 rfl (Nat.le_of_ble_eq_true rfl) rfl rfl rfl ?_
  refine wa_iconst (v := 2) C 5 dX6_toldPerson_4 rfl rfl ?_
  refine wa_icmp_eq C 10 8 dX6_toldPerson_5 rfl rfl (fun c1 => ?_) (fun c1 => ?_)
  · replace hf := ite_t hf c1
    refine wa_aload_n C 0 11 dX6_toldPerson_10 rfl rfl ?_
    refine wa_get C 14 0 0 7 dX6_toldPerson_11 rfl iX6 q168 rfl (Nat.le_of_ble_eq_true rfl) rfl rfl rfl ?_
    refine wa_aload_n C 0 15 dX6_toldPerson_14 rfl rfl ?_
    refine wa_get C 18 0 0 6 dX6_toldPerson_15 rfl iX6 q167 rfl (Nat.le_of_ble_eq_true rfl) rfl rfl rfl ?_
    refine wa_isub C 19 dX6_toldPerson_18 rfl ?_
    refine wa_iconst (v := 4) C 20 dX6_toldPerson_19 rfl rfl ?_
    refine wa_icmp_le C 25 23 dX6_toldPerson_20 rfl rfl (fun c2 => ?_) (fun c2 => ?_)
    · replace hf := ite_t hf c2
      refine wa_aload_n C 0 26 dX6_toldPerson_25 rfl rfl ?_
      refine wa_get C 29 0 0 9 dX6_toldPerson_26 rfl iX6 q170 rfl (Nat.le_of_ble_eq_true rfl) rfl rfl rfl ?_
      refine wa_aload_n C 0 30 dX6_toldPerson_29 rfl rfl ?_
      refine wa_get C 33 0 0 0 dX6_toldPerson_30 rfl iX6 q157 rfl (Nat.le_of_ble_eq_true rfl) rfl rfl rfl ?_
      refine wa_get C 36 1 0 0 dX6_toldPerson_33 rfl iX10 q54 rfl (Nat.le_of_ble_eq_true rfl) rfl rfl rfl ?_
      refine wa_icmp_lt C 43 39 dX6_toldPerson_36 rfl rfl (fun c3 => ?_) (fun c3 => ?_)
      · replace hf := ite_t hf c3
        refine wa_iconst (v := 0) C 44 dX6_toldPerson_43 rfl rfl ?_
        cases hf
        exact wa_iret C dX6_toldPerson_44 rfl rfl
      · replace hf := ite_f hf c3
        refine wa_iconst (v := 3) C 40 dX6_toldPerson_39 rfl rfl ?_
        refine wa_goto C 44 dX6_toldPerson_40 rfl ?_
        cases hf
        exact wa_iret C dX6_toldPerson_44 rfl rfl
    · replace hf := ite_f hf c2
      refine wa_iconst (v := 2) C 24 dX6_toldPerson_23 rfl rfl ?_
      cases hf
      exact wa_iret C dX6_toldPerson_24 rfl rfl
  · replace hf := ite_f hf c1
    refine wa_iconst (v := 1) C 9 dX6_toldPerson_8 rfl rfl ?_
    cases hf
    exact wa_iret C dX6_toldPerson_9 rfl rfl
theorem kv_X6_130 : KV RX6 130 yX10_addPerson cX10_addPerson 2 none 1 := KV.mk q829 q830 q831 q3 q832 ⟨by decide, by decide, by decide +kernel⟩
theorem kv_X6_134 : KV RX6 134 yX6_lineEnd cX6_lineEnd 1 (some .int) 0 := KV.mk q833 q835 qs19 q2 q836 ⟨by decide, by decide, by decide +kernel⟩
def f_X6_personLine (v : Ob) (v_v : Ob) (ut : (Nat → Int32)) (nt : Nat) : Option (Int32 × Ob × Ob) := (if (v_v.1 0) < (12 : Int32) then (f_X6_next v ut nt).bind (fun q2 => (if (q2.1 8) = (2 : Int32) then (if (4 : Int32) < ((q2.1 7) - (q2.1 6)) then some ((2 : Int32), q2, v_v) else (if (q2.1 9) ≤ (9 : Int32) then (f_X10_addPerson v_v (q2.1 9)).bind (fun q7 => (f_X6_next q2 ut nt).bind (fun q9 => (f_X6_lineEnd q9 ut nt).bind (fun q11 => some (q11.1, q11.2, q7)))) else some ((2 : Int32), q2, v_v))) else some ((1 : Int32), q2, v_v))) else some ((2 : Int32), v, v_v))
set_option maxRecDepth 20000 in
theorem c_X6_personLine {l : Launch} {D : va_G} {dT : Nat → ClassId} {a : Nat → Nat} {a_v : Nat → Nat} {bt : Nat} {h_friends : Nat} {h_picks : Nat} {h_keeps : Nat} {aK aV : Nat → Nat} {nt : Nat} {v : Ob} {v_v : Ob} {ut : (Nat → Int32)} {res : Int32 × Ob × Ob} (hf : f_X6_personLine v v_v ut nt = some res) : CEi aK aV l yX6_personLine cX6_personLine 1 (some .int) ({ frames := 8, cells := 0, slots := 0, locals := 167 } : Room) D dT [.ref (a 0)] ([wRd dT a (a_v 0) h_friends h_picks h_keeps bt v, wV dT a_v v_v, [(bt, .inl (dT 2, nt, .inl ut))]]) ([wRd dT a (a_v 0) h_friends h_picks h_keeps bt res.2.1, wV dT a_v res.2.2, [(bt, .inl (dT 2, nt, .inl ut))]]) res.1 := by
  refine CEi.of (by decide) (Nat.le_of_ble_eq_true rfl) rfl ?_
  intro p e s m args below meth c A C E
  unfold f_X6_personLine at hf
  refine wa_aload_n C 0 1 dX6_personLine_0 rfl rfl ?_
  refine wa_get C 4 0 0 0 dX6_personLine_1 rfl iX6 q157 rfl (Nat.le_of_ble_eq_true rfl) rfl rfl rfl ?_
  refine wa_get C 7 1 0 0 dX6_personLine_4 rfl iX10 q54 rfl (Nat.le_of_ble_eq_true rfl) rfl rfl rfl ?_
  refine wa_bipush (v := 12) C 9 dX6_personLine_7 rfl rfl ?_
  refine wa_icmp_lt C 14 12 dX6_personLine_9 rfl rfl (fun c1 => ?_) (fun c1 => ?_)
  · replace hf := ite_t hf c1
    refine wa_aload_n C 0 15 dX6_personLine_14 rfl rfl ?_
    obtain ⟨q2, hq2, hf⟩ := bind_ex hf
    refine we_callVv (ws' := [wRd dT a (a_v 0) h_friends h_picks h_keeps bt q2, wV dT a_v v_v, [(bt, .inl (dT 2, nt, .inl ut))]]) (As := []) C E 18 dX6_personLine_15 rfl kv_X6_72 (c_X6_next hq2) ⟨rfl, rfl⟩ ⟨Nat.le_of_ble_eq_true rfl, Nat.le_of_ble_eq_true rfl⟩ (rv_obj (ci := 6) C 0 0 rfl rfl rfl) [0, 2] [1] [1, 0, 2] rfl rfl rfl rfl (by decide) rfl rfl rfl rfl ⟨Nat.zero_le _, Nat.zero_le _⟩ (Nat.le_of_ble_eq_true rfl) ?_
    refine wa_aload_n C 0 19 dX6_personLine_18 rfl rfl ?_
    refine wa_get C 22 0 0 8 dX6_personLine_19 rfl iX6 q169 rfl (Nat.le_of_ble_eq_true rfl) rfl rfl rfl ?_
    refine wa_iconst (v := 2) C 23 dX6_personLine_22 rfl rfl ?_
    refine wa_icmp_eq C 28 26 dX6_personLine_23 rfl rfl (fun c4 => ?_) (fun c4 => ?_)
    · replace hf := ite_t hf c4
      refine wa_aload_n C 0 29 dX6_personLine_28 rfl rfl ?_
      refine wa_get C 32 0 0 7 dX6_personLine_29 rfl iX6 q168 rfl (Nat.le_of_ble_eq_true rfl) rfl rfl rfl ?_
      refine wa_aload_n C 0 33 dX6_personLine_32 rfl rfl ?_
      refine wa_get C 36 0 0 6 dX6_personLine_33 rfl iX6 q167 rfl (Nat.le_of_ble_eq_true rfl) rfl rfl rfl ?_
      refine wa_isub C 37 dX6_personLine_36 rfl ?_
      refine wa_iconst (v := 4) C 38 dX6_personLine_37 rfl rfl ?_
      refine wa_icmp_gt C 50 41 dX6_personLine_38 rfl rfl (fun c5 => ?_) (fun c5 => ?_)
      · replace hf := ite_t hf c5
        refine wa_iconst (v := 2) C 51 dX6_personLine_50 rfl rfl ?_
        cases hf
        exact wa_iret C dX6_personLine_51 rfl rfl
      · replace hf := ite_f hf c5
        refine wa_aload_n C 0 42 dX6_personLine_41 rfl rfl ?_
        refine wa_get C 45 0 0 9 dX6_personLine_42 rfl iX6 q170 rfl (Nat.le_of_ble_eq_true rfl) rfl rfl rfl ?_
        refine wa_bipush (v := 9) C 47 dX6_personLine_45 rfl rfl ?_
        refine wa_icmp_le C 52 50 dX6_personLine_47 rfl rfl (fun c6 => ?_) (fun c6 => ?_)
        · replace hf := ite_t hf c6
          refine wa_aload_n C 0 53 dX6_personLine_52 rfl rfl ?_
          refine wa_get C 56 0 0 0 dX6_personLine_53 rfl iX6 q157 rfl (Nat.le_of_ble_eq_true rfl) rfl rfl rfl ?_
          refine wa_aload_n C 0 57 dX6_personLine_56 rfl rfl ?_
          refine wa_get C 60 0 0 9 dX6_personLine_57 rfl iX6 q170 rfl (Nat.le_of_ble_eq_true rfl) rfl rfl rfl ?_
          obtain ⟨q7, hq7, hf⟩ := bind_ex hf
          refine wa_callVv (b1 := 1) (q1 := 0) (ci := 10) (ws' := [wRd dT a (a_v 0) h_friends h_picks h_keeps bt q2, wV dT a_v q7, [(bt, .inl (dT 2, nt, .inl ut))]]) (As := [.int (q2.1 9)]) C 63 dX6_personLine_60 rfl kv_X6_130 (c_X10_addPerson hq7) ⟨rfl, rfl⟩ ⟨Nat.le_of_ble_eq_true rfl, Nat.le_of_ble_eq_true rfl⟩ rfl rfl rfl [1] [0, 2] [0, 2, 1] rfl rfl rfl rfl (by decide) rfl rfl rfl rfl ⟨Nat.zero_le _, Nat.zero_le _⟩ (Nat.le_of_ble_eq_true rfl) ?_
          refine wa_aload_n C 0 64 dX6_personLine_63 rfl rfl ?_
          obtain ⟨q9, hq9, hf⟩ := bind_ex hf
          refine we_callVv (ws' := [wRd dT a (a_v 0) h_friends h_picks h_keeps bt q9, wV dT a_v q7, [(bt, .inl (dT 2, nt, .inl ut))]]) (As := []) C E 67 dX6_personLine_64 rfl kv_X6_72 (c_X6_next hq9) ⟨rfl, rfl⟩ ⟨Nat.le_of_ble_eq_true rfl, Nat.le_of_ble_eq_true rfl⟩ (rv_obj (ci := 6) C 0 0 rfl rfl rfl) [0, 2] [1] [1, 0, 2] rfl rfl rfl rfl (by decide) rfl rfl rfl rfl ⟨Nat.zero_le _, Nat.zero_le _⟩ (Nat.le_of_ble_eq_true rfl) ?_
          refine wa_aload_n C 0 68 dX6_personLine_67 rfl rfl ?_
          obtain ⟨q11, hq11, hf⟩ := bind_ex hf
          refine we_callVi (ws' := [wRd dT a (a_v 0) h_friends h_picks h_keeps bt q11.2, wV dT a_v q7, [(bt, .inl (dT 2, nt, .inl ut))]]) (As := []) C E 71 dX6_personLine_68 rfl kv_X6_134 (c_X6_lineEnd hq11) ⟨rfl, rfl⟩ ⟨Nat.le_of_ble_eq_true rfl, Nat.le_of_ble_eq_true rfl⟩ (rv_obj (ci := 6) C 0 0 rfl rfl rfl) [0, 2] [1] [1, 0, 2] rfl rfl rfl rfl (by decide) rfl rfl rfl rfl ⟨Nat.zero_le _, Nat.zero_le _⟩ (Nat.le_of_ble_eq_true rfl) ?_
          cases hf
          exact wa_iret C dX6_personLine_71 rfl rfl
        · replace hf := ite_f hf c6
          refine wa_iconst (v := 2) C 51 dX6_personLine_50 rfl rfl ?_
          cases hf
          exact wa_iret C dX6_personLine_51 rfl rfl
    · replace hf := ite_f hf c4
      refine wa_iconst (v := 1) C 27 dX6_personLine_26 rfl rfl ?_
      cases hf
      exact wa_iret C dX6_personLine_27 rfl rfl
  · replace hf := ite_f hf c1
    refine wa_iconst (v := 2) C 13 dX6_personLine_12 rfl rfl ?_
    cases hf
    exact wa_iret C dX6_personLine_13 rfl rfl
theorem kv_X6_143 : KV RX6 143 yX6_toldPerson cX6_toldPerson 1 (some .int) 0 := KV.mk q847 q849 qs22 q2 q850 ⟨by decide, by decide, by decide +kernel⟩
theorem kv_X6_150 : KV RX6 150 yX10_enter cX10_enter 3 none 2 := KV.mk q851 q506 q507 q3 q508 ⟨by decide, by decide, by decide +kernel⟩
def f_X6_dweller (v : Ob) (v_v : Ob) (ut : (Nat → Int32)) (nt : Nat) (p0 : Int32) : Option (Int32 × Ob × Ob) := (f_X6_toldPerson v v_v).bind (fun q1 => (if q1 = 0 then grd (vi (v.1 9) 12) ((if (v_v.2 2 ((v.1 9)).toNatClampNeg) = (-1 : Int32) then (f_X10_enter v_v (v.1 9) p0).bind (fun q6 => (f_X6_next v ut nt).bind (fun q8 => some ((0 : Int32), q8, q6))) else some ((4 : Int32), v, v_v))) else some (q1, v, v_v)))
set_option maxRecDepth 20000 in
theorem c_X6_dweller {l : Launch} {D : va_G} {dT : Nat → ClassId} {a : Nat → Nat} {a_v : Nat → Nat} {bt : Nat} {h_friends : Nat} {h_picks : Nat} {h_keeps : Nat} {aK aV : Nat → Nat} {nt : Nat} {v : Ob} {v_v : Ob} {ut : (Nat → Int32)} {p0 : Int32} {res : Int32 × Ob × Ob} (hf : f_X6_dweller v v_v ut nt p0 = some res) : CEi aK aV l yX6_dweller cX6_dweller 3 (some .int) ({ frames := 7, cells := 0, slots := 0, locals := 147 } : Room) D dT [.ref (a 0), .int p0] ([wRd dT a (a_v 0) h_friends h_picks h_keeps bt v, wV dT a_v v_v, [(bt, .inl (dT 2, nt, .inl ut))]]) ([wRd dT a (a_v 0) h_friends h_picks h_keeps bt res.2.1, wV dT a_v res.2.2, [(bt, .inl (dT 2, nt, .inl ut))]]) res.1 := by
  refine CEi.of (by decide) (Nat.le_of_ble_eq_true rfl) rfl ?_
  intro p e s m args below meth c A C E
  unfold f_X6_dweller at hf
  refine wa_aload_n C 0 1 dX6_dweller_0 rfl rfl ?_
  obtain ⟨q1, hq1, hf⟩ := bind_ex hf
  refine wa_callVi (b1 := 0) (q1 := 0) (ci := 6) (ws' := [wRd dT a (a_v 0) h_friends h_picks h_keeps bt v, wV dT a_v v_v, [(bt, .inl (dT 2, nt, .inl ut))]]) (As := []) C 4 dX6_dweller_1 rfl kv_X6_143 (c_X6_toldPerson hq1) ⟨rfl, rfl⟩ ⟨Nat.le_of_ble_eq_true rfl, Nat.le_of_ble_eq_true rfl⟩ rfl rfl rfl [0, 1] [2] [1, 2, 0] rfl rfl rfl rfl (by decide) rfl rfl rfl rfl ⟨Nat.zero_le _, Nat.zero_le _⟩ (Nat.le_of_ble_eq_true rfl) ?_
  refine wa_istore_n (lv' := [(0, .ref (a 0)), (1, .int p0), (2, .int q1)]) C [1, 2, 0] 5 dX6_dweller_4 rfl (Nat.le_of_ble_eq_true rfl) rfl ?_
  refine wa_iload_n C 2 6 dX6_dweller_5 rfl rfl ?_
  refine wa_if_eq C 11 9 dX6_dweller_6 rfl rfl (fun c3 => ?_) (fun c3 => ?_)
  · replace hf := ite_t hf c3
    refine wa_aload_n C 0 12 dX6_dweller_11 rfl rfl ?_
    refine wa_get C 15 0 0 0 dX6_dweller_12 rfl iX6 q157 rfl (Nat.le_of_ble_eq_true rfl) rfl rfl rfl ?_
    refine wa_get C 18 1 0 4 dX6_dweller_15 rfl iX10 q77 rfl (Nat.le_of_ble_eq_true rfl) rfl rfl rfl ?_
    refine wa_aload_n C 0 19 dX6_dweller_18 rfl rfl ?_
    refine wa_get C 22 0 0 9 dX6_dweller_19 rfl iX6 q170 rfl (Nat.le_of_ble_eq_true rfl) rfl rfl rfl ?_
    obtain ⟨g4, hf⟩ := grd_ex hf
    refine wa_iald C 23 1 2 dX6_dweller_22 rfl rfl rfl (vi_in g4) ?_
    refine wa_iconst (v := (-1)) C 24 dX6_dweller_23 rfl rfl ?_
    refine wa_icmp_eq C 29 27 dX6_dweller_24 rfl rfl (fun c5 => ?_) (fun c5 => ?_)
    · replace hf := ite_t hf c5
      refine wa_aload_n C 0 30 dX6_dweller_29 rfl rfl ?_
      refine wa_get C 33 0 0 0 dX6_dweller_30 rfl iX6 q157 rfl (Nat.le_of_ble_eq_true rfl) rfl rfl rfl ?_
      refine wa_aload_n C 0 34 dX6_dweller_33 rfl rfl ?_
      refine wa_get C 37 0 0 9 dX6_dweller_34 rfl iX6 q170 rfl (Nat.le_of_ble_eq_true rfl) rfl rfl rfl ?_
      refine wa_iload_n C 1 38 dX6_dweller_37 rfl rfl ?_
      obtain ⟨q6, hq6, hf⟩ := bind_ex hf
      refine wa_callVv (b1 := 1) (q1 := 0) (ci := 10) (ws' := [wRd dT a (a_v 0) h_friends h_picks h_keeps bt v, wV dT a_v q6, [(bt, .inl (dT 2, nt, .inl ut))]]) (As := [.int (v.1 9), .int p0]) C 41 dX6_dweller_38 rfl kv_X6_150 (c_X10_enter hq6) ⟨rfl, rfl⟩ ⟨Nat.le_of_ble_eq_true rfl, Nat.le_of_ble_eq_true rfl⟩ rfl rfl rfl [1] [0, 2] [0, 2, 1] rfl rfl rfl rfl (by decide) rfl rfl rfl rfl ⟨Nat.zero_le _, Nat.zero_le _⟩ (Nat.le_of_ble_eq_true rfl) ?_
      refine wa_aload_n C 0 42 dX6_dweller_41 rfl rfl ?_
      obtain ⟨q8, hq8, hf⟩ := bind_ex hf
      refine we_callVv (ws' := [wRd dT a (a_v 0) h_friends h_picks h_keeps bt q8, wV dT a_v q6, [(bt, .inl (dT 2, nt, .inl ut))]]) (As := []) C E 45 dX6_dweller_42 rfl kv_X6_72 (c_X6_next hq8) ⟨rfl, rfl⟩ ⟨Nat.le_of_ble_eq_true rfl, Nat.le_of_ble_eq_true rfl⟩ (rv_obj (ci := 6) C 0 0 rfl rfl rfl) [0, 2] [1] [1, 0, 2] rfl rfl rfl rfl (by decide) rfl rfl rfl rfl ⟨Nat.zero_le _, Nat.zero_le _⟩ (Nat.le_of_ble_eq_true rfl) ?_
      refine wa_iconst (v := 0) C 46 dX6_dweller_45 rfl rfl ?_
      cases hf
      exact wa_iret C dX6_dweller_46 rfl rfl
    · replace hf := ite_f hf c5
      refine wa_iconst (v := 4) C 28 dX6_dweller_27 rfl rfl ?_
      cases hf
      exact wa_iret C dX6_dweller_28 rfl rfl
  · replace hf := ite_f hf c3
    refine wa_iload_n C 2 10 dX6_dweller_9 rfl rfl ?_
    cases hf
    exact wa_iret C dX6_dweller_10 rfl rfl
theorem kv_X6_137 : KV RX6 137 yX10_addHouse cX10_addHouse 2 (some .int) 0 := KV.mk q842 q499 q500 q3 q501 ⟨by decide, by decide, by decide +kernel⟩
theorem kv_X6_140 : KV RX6 140 yX6_dweller cX6_dweller 3 (some .int) 1 := KV.mk q843 q845 qs21 q2 q846 ⟨by decide, by decide, by decide +kernel⟩
def f_X6_houseLine_J52 (nt : Nat) (z2 : (Nat → Int32)) (l2 : Int32) (z0 : Ob) (z1 : Ob) : Option (Int32 × Ob × Ob) := (if l2 = 0 then (f_X6_lineEnd z0 z2 nt).bind (fun q9 => some (q9.1, q9.2, z1)) else some (l2, z0, z1))
def f_X6_houseLine_L20 (nt : Nat) (l1 : Int32) (z2 : (Nat → Int32)) : Nat → Int32 → Int32 → Ob → Ob → Option (Int32 × Ob × Ob)
  | 0, _, _, _, _ => none
  | n + 1, l2, l3, z0, z1 => (if (z0.1 5) ≤ l3 then f_X6_houseLine_J52 nt z2 l2 z0 z1 else (if l2 = 0 then (if (z0.1 8) = (2 : Int32) then (f_X6_dweller z0 z1 z2 nt l1).bind (fun q13 => bnd (l3 + 1) (fun x15 => f_X6_houseLine_L20 nt l1 z2 n q13.1 x15 q13.2.1 q13.2.2)) else f_X6_houseLine_J52 nt z2 l2 z0 z1) else f_X6_houseLine_J52 nt z2 l2 z0 z1))
def f_X6_houseLine (v : Ob) (v_v : Ob) (ut : (Nat → Int32)) (nt : Nat) : Option (Int32 × Ob × Ob) := (f_X10_addHouse v_v).bind (fun q1 => (f_X6_next v ut nt).bind (fun q3 => (f_X6_dweller q3 q1.2 ut nt q1.1).bind (fun q5 => f_X6_houseLine_L20 nt q1.1 ut FUEL q5.1 (0 : Int32) q5.2.1 q5.2.2)))
set_option maxRecDepth 20000 in
theorem w_X6_houseLine_J52 {p : Program} {l : Launch} {e : Env} {s : State} {m : MethodId} {args : Array Value} {below : List Frame} {meth : Method} {c : Code} {D : va_G} {A : Nat → Prop} {dT : Nat → ClassId} {a : Nat → Nat} {a_v : Nat → Nat} {bt : Nat} {h_friends : Nat} {h_picks : Nat} {h_keeps : Nat} {aK aV : Nat → Nat} {nt : Nat} {res : Int32 × Ob × Ob} {z2 : (Nat → Int32)} (C : Cx p s m args meth c cX6_houseLine 4 RX6 (some .int) D A dT) (E : AMB aK aV A s s.heap) : ∀ (l2 : Int32) (z0 : Ob) (z1 : Ob), f_X6_houseLine_J52 nt z2 l2 z0 z1 = some res → WA p l e ({ frames := 8, cells := 0, slots := 0, locals := 169 } : Room) s m args below meth c (MQ below (QI D dT A ([wRd dT a (a_v 0) h_friends h_picks h_keeps bt res.2.1, wV dT a_v res.2.2, [(bt, .inl (dT 2, nt, .inl z2))]]) res.1) args s 0 0 A) D A 0 0 4 52 ([wRd dT a (a_v 0) h_friends h_picks h_keeps bt z0, wV dT a_v z1, [(bt, .inl (dT 2, nt, .inl z2))]]) [(0, .ref (a 0)), (2, .int l2)] [] := by
  intro l2 z0 z1 hf
  unfold f_X6_houseLine_J52 at hf
  refine wa_iload_n C 1 53 dX6_houseLine_52 rfl rfl ?_
  refine wa_if_eq C 60 56 dX6_houseLine_53 rfl rfl (fun c8 => ?_) (fun c8 => ?_)
  · replace hf := ite_t hf c8
    refine wa_aload_n C 0 61 dX6_houseLine_60 rfl rfl ?_
    obtain ⟨q9, hq9, hf⟩ := bind_ex hf
    refine we_callVi (ws' := [wRd dT a (a_v 0) h_friends h_picks h_keeps bt q9.2, wV dT a_v z1, [(bt, .inl (dT 2, nt, .inl z2))]]) (As := []) C E 64 dX6_houseLine_61 rfl kv_X6_134 (c_X6_lineEnd hq9) ⟨rfl, rfl⟩ ⟨Nat.le_of_ble_eq_true rfl, Nat.le_of_ble_eq_true rfl⟩ (rv_obj (ci := 6) C 0 0 rfl rfl rfl) [0, 2] [1] [1, 0, 2] rfl rfl rfl rfl (by decide) rfl rfl rfl rfl ⟨Nat.zero_le _, Nat.zero_le _⟩ (Nat.le_of_ble_eq_true rfl) ?_
    cases hf
    exact wa_iret C dX6_houseLine_64 rfl rfl
  · replace hf := ite_f hf c8
    refine wa_iload_n C 1 57 dX6_houseLine_56 rfl rfl ?_
    refine wa_goto C 64 dX6_houseLine_57 rfl ?_
    cases hf
    exact wa_iret C dX6_houseLine_64 rfl rfl
set_option maxRecDepth 20000 in
theorem w_X6_houseLine_L20 {p : Program} {l : Launch} {e : Env} {s : State} {m : MethodId} {args : Array Value} {below : List Frame} {meth : Method} {c : Code} {D : va_G} {A : Nat → Prop} {dT : Nat → ClassId} {a : Nat → Nat} {a_v : Nat → Nat} {bt : Nat} {h_friends : Nat} {h_picks : Nat} {h_keeps : Nat} {aK aV : Nat → Nat} {nt : Nat} {res : Int32 × Ob × Ob} {l1 : Int32} {z2 : (Nat → Int32)} (C : Cx p s m args meth c cX6_houseLine 4 RX6 (some .int) D A dT) (E : AMB aK aV A s s.heap) : ∀ (n : Nat) (l2 : Int32) (l3 : Int32) (z0 : Ob) (z1 : Ob), f_X6_houseLine_L20 nt l1 z2 n l2 l3 z0 z1 = some res → WA p l e ({ frames := 8, cells := 0, slots := 0, locals := 169 } : Room) s m args below meth c (MQ below (QI D dT A ([wRd dT a (a_v 0) h_friends h_picks h_keeps bt res.2.1, wV dT a_v res.2.2, [(bt, .inl (dT 2, nt, .inl z2))]]) res.1) args s 0 0 A) D A 0 0 4 20 ([wRd dT a (a_v 0) h_friends h_picks h_keeps bt z0, wV dT a_v z1, [(bt, .inl (dT 2, nt, .inl z2))]]) [(0, .ref (a 0)), (1, .int l1), (2, .int l2), (3, .int l3)] [] := by
  intro n
  induction n with
  | zero => intro l2 l3 z0 z1 hf; cases hf
  | succ n ih =>
    intro l2 l3 z0 z1 hf
    unfold f_X6_houseLine_L20 at hf
    refine wa_iload_n C 3 21 dX6_houseLine_20 rfl rfl ?_
    refine wa_aload_n C 0 22 dX6_houseLine_21 rfl rfl ?_
    refine wa_get C 25 0 0 5 dX6_houseLine_22 rfl iX6 q166 rfl (Nat.le_of_ble_eq_true rfl) rfl rfl rfl ?_
    refine wa_icmp_ge C 52 28 dX6_houseLine_25 rfl rfl (fun c7 => ?_) (fun c7 => ?_)
    · replace hf := ite_t hf c7
      refine wa_lv (lv' := [(0, .ref (a 0)), (2, .int l2)]) [0, 2] rfl ?_
      exact w_X6_houseLine_J52 C E l2 z0 z1 hf
    · replace hf := ite_f hf c7
      refine wa_iload_n C 2 29 dX6_houseLine_28 rfl rfl ?_
      refine wa_if_ne C 52 32 dX6_houseLine_29 rfl rfl (fun c11 => ?_) (fun c11 => ?_)
      · replace hf := ite_f hf c11
        refine wa_lv (lv' := [(0, .ref (a 0)), (2, .int l2)]) [0, 2] rfl ?_
        exact w_X6_houseLine_J52 C E l2 z0 z1 hf
      · replace hf := ite_t hf c11
        refine wa_aload_n C 0 33 dX6_houseLine_32 rfl rfl ?_
        refine wa_get C 36 0 0 8 dX6_houseLine_33 rfl iX6 q169 rfl (Nat.le_of_ble_eq_true rfl) rfl rfl rfl ?_
        refine wa_iconst (v := 2) C 37 dX6_houseLine_36 rfl rfl ?_
        refine wa_icmp_ne C 52 40 dX6_houseLine_37 rfl rfl (fun c12 => ?_) (fun c12 => ?_)
        · replace hf := ite_f hf c12
          refine wa_lv (lv' := [(0, .ref (a 0)), (2, .int l2)]) [0, 2] rfl ?_
          exact w_X6_houseLine_J52 C E l2 z0 z1 hf
        · replace hf := ite_t hf c12
          refine wa_aload_n C 0 41 dX6_houseLine_40 rfl rfl ?_
          refine wa_iload_n C 1 42 dX6_houseLine_41 rfl rfl ?_
          obtain ⟨q13, hq13, hf⟩ := bind_ex hf
          refine we_callVi (ws' := [wRd dT a (a_v 0) h_friends h_picks h_keeps bt q13.2.1, wV dT a_v q13.2.2, [(bt, .inl (dT 2, nt, .inl z2))]]) (As := [.int l1]) C E 45 dX6_houseLine_42 rfl kv_X6_140 (c_X6_dweller hq13) ⟨rfl, rfl⟩ ⟨Nat.le_of_ble_eq_true rfl, Nat.le_of_ble_eq_true rfl⟩ (rv_obj (ci := 6) C 0 0 rfl rfl rfl) [0, 1, 2] [] [0, 1, 2] rfl rfl rfl rfl (by decide) rfl rfl rfl rfl ⟨Nat.zero_le _, Nat.zero_le _⟩ (Nat.le_of_ble_eq_true rfl) ?_
          refine wa_istore_n (lv' := [(0, .ref (a 0)), (1, .int l1), (2, .int q13.1), (3, .int l3)]) C [1, 2, 0, 3] 46 dX6_houseLine_45 rfl (Nat.le_of_ble_eq_true rfl) rfl ?_
          obtain ⟨x15, ex15, hf⟩ := bnd_ex hf
          refine wa_iinc (v := x15) (lv' := [(0, .ref (a 0)), (1, .int l1), (2, .int q13.1), (3, .int x15)]) C 3 [1, 2, 3, 0] 49 dX6_houseLine_46 rfl rfl (by rw [ex15]; rfl) (Nat.le_of_ble_eq_true rfl) rfl ?_
          refine wa_goto C 20 dX6_houseLine_49 rfl ?_
          exact ih q13.1 x15 q13.2.1 q13.2.2 hf
set_option maxRecDepth 20000 in
theorem c_X6_houseLine {l : Launch} {D : va_G} {dT : Nat → ClassId} {a : Nat → Nat} {a_v : Nat → Nat} {bt : Nat} {h_friends : Nat} {h_picks : Nat} {h_keeps : Nat} {aK aV : Nat → Nat} {nt : Nat} {v : Ob} {v_v : Ob} {ut : (Nat → Int32)} {res : Int32 × Ob × Ob} (hf : f_X6_houseLine v v_v ut nt = some res) : CEi aK aV l yX6_houseLine cX6_houseLine 4 (some .int) ({ frames := 8, cells := 0, slots := 0, locals := 169 } : Room) D dT [.ref (a 0)] ([wRd dT a (a_v 0) h_friends h_picks h_keeps bt v, wV dT a_v v_v, [(bt, .inl (dT 2, nt, .inl ut))]]) ([wRd dT a (a_v 0) h_friends h_picks h_keeps bt res.2.1, wV dT a_v res.2.2, [(bt, .inl (dT 2, nt, .inl ut))]]) res.1 := by
  refine CEi.of (by decide) (Nat.le_of_ble_eq_true rfl) rfl ?_
  intro p e s m args below meth c A C E
  unfold f_X6_houseLine at hf
  refine wa_aload_n C 0 1 dX6_houseLine_0 rfl rfl ?_
  refine wa_get C 4 0 0 0 dX6_houseLine_1 rfl iX6 q157 rfl (Nat.le_of_ble_eq_true rfl) rfl rfl rfl ?_
  obtain ⟨q1, hq1, hf⟩ := bind_ex hf
  refine wa_callVi (b1 := 1) (q1 := 0) (ci := 10) (ws' := [wRd dT a (a_v 0) h_friends h_picks h_keeps bt v, wV dT a_v q1.2, [(bt, .inl (dT 2, nt, .inl ut))]]) (As := []) C 7 dX6_houseLine_4 rfl kv_X6_137 (c_X10_addHouse hq1) ⟨rfl, rfl⟩ ⟨Nat.le_of_ble_eq_true rfl, Nat.le_of_ble_eq_true rfl⟩ rfl rfl rfl [1] [0, 2] [0, 2, 1] rfl rfl rfl rfl (by decide) rfl rfl rfl rfl ⟨Nat.zero_le _, Nat.zero_le _⟩ (Nat.le_of_ble_eq_true rfl) ?_
  refine wa_istore_n (lv' := [(0, .ref (a 0)), (1, .int q1.1)]) C [1, 0] 8 dX6_houseLine_7 rfl (Nat.le_of_ble_eq_true rfl) rfl ?_
  refine wa_aload_n C 0 9 dX6_houseLine_8 rfl rfl ?_
  obtain ⟨q3, hq3, hf⟩ := bind_ex hf
  refine we_callVv (ws' := [wRd dT a (a_v 0) h_friends h_picks h_keeps bt q3, wV dT a_v q1.2, [(bt, .inl (dT 2, nt, .inl ut))]]) (As := []) C E 12 dX6_houseLine_9 rfl kv_X6_72 (c_X6_next hq3) ⟨rfl, rfl⟩ ⟨Nat.le_of_ble_eq_true rfl, Nat.le_of_ble_eq_true rfl⟩ (rv_obj (ci := 6) C 0 0 rfl rfl rfl) [0, 2] [1] [1, 0, 2] rfl rfl rfl rfl (by decide) rfl rfl rfl rfl ⟨Nat.zero_le _, Nat.zero_le _⟩ (Nat.le_of_ble_eq_true rfl) ?_
  refine wa_aload_n C 0 13 dX6_houseLine_12 rfl rfl ?_
  refine wa_iload_n C 1 14 dX6_houseLine_13 rfl rfl ?_
  obtain ⟨q5, hq5, hf⟩ := bind_ex hf
  refine we_callVi (ws' := [wRd dT a (a_v 0) h_friends h_picks h_keeps bt q5.2.1, wV dT a_v q5.2.2, [(bt, .inl (dT 2, nt, .inl ut))]]) (As := [.int q1.1]) C E 17 dX6_houseLine_14 rfl kv_X6_140 (c_X6_dweller hq5) ⟨rfl, rfl⟩ ⟨Nat.le_of_ble_eq_true rfl, Nat.le_of_ble_eq_true rfl⟩ (rv_obj (ci := 6) C 0 0 rfl rfl rfl) [0, 1, 2] [] [0, 1, 2] rfl rfl rfl rfl (by decide) rfl rfl rfl rfl ⟨Nat.zero_le _, Nat.zero_le _⟩ (Nat.le_of_ble_eq_true rfl) ?_
  refine wa_istore_n (lv' := [(0, .ref (a 0)), (1, .int q1.1), (2, .int q5.1)]) C [1, 2, 0] 18 dX6_houseLine_17 rfl (Nat.le_of_ble_eq_true rfl) rfl ?_
  refine wa_iconst (v := 0) C 19 dX6_houseLine_18 rfl rfl ?_
  refine wa_istore_n (lv' := [(0, .ref (a 0)), (1, .int q1.1), (2, .int q5.1), (3, .int (0 : Int32))]) C [1, 2, 3, 0] 20 dX6_houseLine_19 rfl (Nat.le_of_ble_eq_true rfl) rfl ?_
  exact w_X6_houseLine_L20 C E FUEL q5.1 (0 : Int32) q5.2.1 q5.2.2 hf
theorem kv_X6_154 : KV RX6 154 yX3_of cX3_of 4 (some .int) 1 := KV.mk q857 q858 q859 q4 q860 ⟨by decide, by decide, by decide +kernel⟩
theorem kv_X6_157 : KV RX6 157 yX3_add cX3_add 3 none 2 := KV.mk q861 q862 q863 q4 q864 ⟨by decide, by decide, by decide +kernel⟩
def f_X6_friendsLine (v : Ob) (v_v : Ob) (v_f : Ob) (ut : (Nat → Int32)) (nt : Nat) : Option (Int32 × Ob × Ob) := (if (v_f.1 0) < (12 : Int32) then (f_X6_next v ut nt).bind (fun q2 => (f_X6_toldPerson q2 v_v).bind (fun q4 => (if q4 = 0 then bnd (q2.1 9) (fun x7 => (f_X6_next q2 ut nt).bind (fun q8 => (f_X6_toldPerson q8 v_v).bind (fun q10 => (if q10 = 0 then (if (q8.1 9) = x7 then some ((4 : Int32), q8, v_f) else (f_X3_of v_f x7).bind (fun q14 => (if ((q14 >>> ((q8.1 9) &&& 31)) &&& (1 : Int32)) = 0 then (f_X3_add v_f x7 (q8.1 9)).bind (fun q17 => (f_X6_next q8 ut nt).bind (fun q19 => (f_X6_lineEnd q19 ut nt).bind (fun q21 => some (q21.1, q21.2, q17)))) else some ((4 : Int32), q8, v_f)))) else some (q10, q8, v_f))))) else some (q4, q2, v_f)))) else some ((2 : Int32), v, v_f))
set_option maxRecDepth 20000 in
theorem c_X6_friendsLine {l : Launch} {D : va_G} {dT : Nat → ClassId} {a : Nat → Nat} {a_v : Nat → Nat} {a_f : Nat → Nat} {bt : Nat} {h_picks : Nat} {h_keeps : Nat} {aK aV : Nat → Nat} {nt : Nat} {v : Ob} {v_v : Ob} {v_f : Ob} {ut : (Nat → Int32)} {res : Int32 × Ob × Ob} (hf : f_X6_friendsLine v v_v v_f ut nt = some res) : CEi aK aV l yX6_friendsLine cX6_friendsLine 3 (some .int) ({ frames := 8, cells := 0, slots := 0, locals := 167 } : Room) D dT [.ref (a 0)] ([wRd dT a (a_v 0) (a_f 0) h_picks h_keeps bt v, wV dT a_v v_v, wF dT a_f v_f, [(bt, .inl (dT 2, nt, .inl ut))]]) ([wRd dT a (a_v 0) (a_f 0) h_picks h_keeps bt res.2.1, wV dT a_v v_v, wF dT a_f res.2.2, [(bt, .inl (dT 2, nt, .inl ut))]]) res.1 := by
  refine CEi.of (by decide) (Nat.le_of_ble_eq_true rfl) rfl ?_
  intro p e s m args below meth c A C E
  unfold f_X6_friendsLine at hf
  refine wa_aload_n C 0 1 dX6_friendsLine_0 rfl rfl ?_
  refine wa_get C 4 0 0 1 dX6_friendsLine_1 rfl iX6 q159 rfl (Nat.le_of_ble_eq_true rfl) rfl rfl rfl ?_
  refine wa_get C 7 2 0 0 dX6_friendsLine_4 rfl iX3 q125 rfl (Nat.le_of_ble_eq_true rfl) rfl rfl rfl ?_
  refine wa_bipush (v := 12) C 9 dX6_friendsLine_7 rfl rfl ?_
  refine wa_icmp_lt C 14 12 dX6_friendsLine_9 rfl rfl (fun c1 => ?_) (fun c1 => ?_)
  · replace hf := ite_t hf c1
    refine wa_aload_n C 0 15 dX6_friendsLine_14 rfl rfl ?_
    obtain ⟨q2, hq2, hf⟩ := bind_ex hf
    refine we_callVv (ws' := [wRd dT a (a_v 0) (a_f 0) h_picks h_keeps bt q2, wV dT a_v v_v, wF dT a_f v_f, [(bt, .inl (dT 2, nt, .inl ut))]]) (As := []) C E 18 dX6_friendsLine_15 rfl kv_X6_72 (c_X6_next hq2) ⟨rfl, rfl⟩ ⟨Nat.le_of_ble_eq_true rfl, Nat.le_of_ble_eq_true rfl⟩ (rv_obj (ci := 6) C 0 0 rfl rfl rfl) [0, 3] [1, 2] [2, 0, 1, 3] rfl rfl rfl rfl (by decide) rfl rfl rfl rfl ⟨Nat.zero_le _, Nat.zero_le _⟩ (Nat.le_of_ble_eq_true rfl) ?_
    refine wa_aload_n C 0 19 dX6_friendsLine_18 rfl rfl ?_
    obtain ⟨q4, hq4, hf⟩ := bind_ex hf
    refine wa_callVi (b1 := 0) (q1 := 0) (ci := 6) (ws' := [wRd dT a (a_v 0) (a_f 0) h_picks h_keeps bt q2, wV dT a_v v_v, wF dT a_f v_f, [(bt, .inl (dT 2, nt, .inl ut))]]) (As := []) C 22 dX6_friendsLine_19 rfl kv_X6_143 (c_X6_toldPerson hq4) ⟨rfl, rfl⟩ ⟨Nat.le_of_ble_eq_true rfl, Nat.le_of_ble_eq_true rfl⟩ rfl rfl rfl [0, 1] [2, 3] [2, 3, 0, 1] rfl rfl rfl rfl (by decide) rfl rfl rfl rfl ⟨Nat.zero_le _, Nat.zero_le _⟩ (Nat.le_of_ble_eq_true rfl) ?_
    refine wa_istore_n (lv' := [(0, .ref (a 0)), (1, .int q4)]) C [1, 0] 23 dX6_friendsLine_22 rfl (Nat.le_of_ble_eq_true rfl) rfl ?_
    refine wa_iload_n C 1 24 dX6_friendsLine_23 rfl rfl ?_
    refine wa_if_eq C 29 27 dX6_friendsLine_24 rfl rfl (fun c6 => ?_) (fun c6 => ?_)
    · replace hf := ite_t hf c6
      refine wa_aload_n C 0 30 dX6_friendsLine_29 rfl rfl ?_
      refine wa_get C 33 0 0 9 dX6_friendsLine_30 rfl iX6 q170 rfl (Nat.le_of_ble_eq_true rfl) rfl rfl rfl ?_
      obtain ⟨x7, ex7, hf⟩ := bnd_ex hf
      refine wa_topi ex7 ?_
      refine wa_istore_n (lv' := [(0, .ref (a 0)), (1, .int q4), (2, .int x7)]) C [1, 2, 0] 34 dX6_friendsLine_33 rfl (Nat.le_of_ble_eq_true rfl) rfl ?_
      refine wa_aload_n C 0 35 dX6_friendsLine_34 rfl rfl ?_
      obtain ⟨q8, hq8, hf⟩ := bind_ex hf
      refine we_callVv (ws' := [wRd dT a (a_v 0) (a_f 0) h_picks h_keeps bt q8, wV dT a_v v_v, wF dT a_f v_f, [(bt, .inl (dT 2, nt, .inl ut))]]) (As := []) C E 38 dX6_friendsLine_35 rfl kv_X6_72 (c_X6_next hq8) ⟨rfl, rfl⟩ ⟨Nat.le_of_ble_eq_true rfl, Nat.le_of_ble_eq_true rfl⟩ (rv_obj (ci := 6) C 0 0 rfl rfl rfl) [0, 3] [1, 2] [2, 0, 1, 3] rfl rfl rfl rfl (by decide) rfl rfl rfl rfl ⟨Nat.zero_le _, Nat.zero_le _⟩ (Nat.le_of_ble_eq_true rfl) ?_
      refine wa_aload_n C 0 39 dX6_friendsLine_38 rfl rfl ?_
      obtain ⟨q10, hq10, hf⟩ := bind_ex hf
      refine wa_callVi (b1 := 0) (q1 := 0) (ci := 6) (ws' := [wRd dT a (a_v 0) (a_f 0) h_picks h_keeps bt q8, wV dT a_v v_v, wF dT a_f v_f, [(bt, .inl (dT 2, nt, .inl ut))]]) (As := []) C 42 dX6_friendsLine_39 rfl kv_X6_143 (c_X6_toldPerson hq10) ⟨rfl, rfl⟩ ⟨Nat.le_of_ble_eq_true rfl, Nat.le_of_ble_eq_true rfl⟩ rfl rfl rfl [0, 1] [2, 3] [2, 3, 0, 1] rfl rfl rfl rfl (by decide) rfl rfl rfl rfl ⟨Nat.zero_le _, Nat.zero_le _⟩ (Nat.le_of_ble_eq_true rfl) ?_
      refine wa_istore_n (lv' := [(0, .ref (a 0)), (1, .int q10), (2, .int x7)]) C [1, 0, 2] 43 dX6_friendsLine_42 rfl (Nat.le_of_ble_eq_true rfl) rfl ?_
      refine wa_iload_n C 1 44 dX6_friendsLine_43 rfl rfl ?_
      refine wa_if_eq C 49 47 dX6_friendsLine_44 rfl rfl (fun c12 => ?_) (fun c12 => ?_)
      · replace hf := ite_t hf c12
        refine wa_aload_n C 0 50 dX6_friendsLine_49 rfl rfl ?_
        refine wa_get C 53 0 0 9 dX6_friendsLine_50 rfl iX6 q170 rfl (Nat.le_of_ble_eq_true rfl) rfl rfl rfl ?_
        refine wa_iload_n C 2 54 dX6_friendsLine_53 rfl rfl ?_
        refine wa_icmp_eq C 75 57 dX6_friendsLine_54 rfl rfl (fun c13 => ?_) (fun c13 => ?_)
        · replace hf := ite_t hf c13
          refine wa_iconst (v := 4) C 76 dX6_friendsLine_75 rfl rfl ?_
          cases hf
          exact wa_iret C dX6_friendsLine_76 rfl rfl
        · replace hf := ite_f hf c13
          refine wa_aload_n C 0 58 dX6_friendsLine_57 rfl rfl ?_
          refine wa_get C 61 0 0 1 dX6_friendsLine_58 rfl iX6 q159 rfl (Nat.le_of_ble_eq_true rfl) rfl rfl rfl ?_
          refine wa_iload_n C 2 62 dX6_friendsLine_61 rfl rfl ?_
          obtain ⟨q14, hq14, hf⟩ := bind_ex hf
          refine wa_callVi (b1 := 2) (q1 := 0) (ci := 3) (ws' := [wRd dT a (a_v 0) (a_f 0) h_picks h_keeps bt q8, wV dT a_v v_v, wF dT a_f v_f, [(bt, .inl (dT 2, nt, .inl ut))]]) (As := [.int x7]) C 65 dX6_friendsLine_62 rfl kv_X6_154 (c_X3_of hq14) ⟨rfl, rfl⟩ ⟨Nat.le_of_ble_eq_true rfl, Nat.le_of_ble_eq_true rfl⟩ rfl rfl rfl [2] [0, 1, 3] [0, 1, 3, 2] rfl rfl rfl rfl (by decide) rfl rfl rfl rfl ⟨Nat.zero_le _, Nat.zero_le _⟩ (Nat.le_of_ble_eq_true rfl) ?_
          refine wa_aload_n C 0 66 dX6_friendsLine_65 rfl rfl ?_
          refine wa_get C 69 0 0 9 dX6_friendsLine_66 rfl iX6 q170 rfl (Nat.le_of_ble_eq_true rfl) rfl rfl rfl ?_
          refine wa_ishr C 70 dX6_friendsLine_69 rfl ?_
          refine wa_iconst (v := 1) C 71 dX6_friendsLine_70 rfl rfl ?_
          refine wa_iand C 72 dX6_friendsLine_71 rfl ?_
          refine wa_if_eq C 77 75 dX6_friendsLine_72 rfl rfl (fun c16 => ?_) (fun c16 => ?_)
          · replace hf := ite_t hf c16
            refine wa_aload_n C 0 78 dX6_friendsLine_77 rfl rfl ?_
            refine wa_get C 81 0 0 1 dX6_friendsLine_78 rfl iX6 q159 rfl (Nat.le_of_ble_eq_true rfl) rfl rfl rfl ?_
            refine wa_iload_n C 2 82 dX6_friendsLine_81 rfl rfl ?_
            refine wa_aload_n C 0 83 dX6_friendsLine_82 rfl rfl ?_
            refine wa_get C 86 0 0 9 dX6_friendsLine_83 rfl iX6 q170 rfl (Nat.le_of_ble_eq_true rfl) rfl rfl rfl ?_
            obtain ⟨q17, hq17, hf⟩ := bind_ex hf
            refine wa_callVv (b1 := 2) (q1 := 0) (ci := 3) (ws' := [wRd dT a (a_v 0) (a_f 0) h_picks h_keeps bt q8, wV dT a_v v_v, wF dT a_f q17, [(bt, .inl (dT 2, nt, .inl ut))]]) (As := [.int x7, .int (q8.1 9)]) C 89 dX6_friendsLine_86 rfl kv_X6_157 (c_X3_add hq17) ⟨rfl, rfl⟩ ⟨Nat.le_of_ble_eq_true rfl, Nat.le_of_ble_eq_true rfl⟩ rfl rfl rfl [2] [0, 1, 3] [0, 1, 3, 2] rfl rfl rfl rfl (by decide) rfl rfl rfl rfl ⟨Nat.zero_le _, Nat.zero_le _⟩ (Nat.le_of_ble_eq_true rfl) ?_
            refine wa_aload_n C 0 90 dX6_friendsLine_89 rfl rfl ?_
            obtain ⟨q19, hq19, hf⟩ := bind_ex hf
            refine we_callVv (ws' := [wRd dT a (a_v 0) (a_f 0) h_picks h_keeps bt q19, wV dT a_v v_v, wF dT a_f q17, [(bt, .inl (dT 2, nt, .inl ut))]]) (As := []) C E 93 dX6_friendsLine_90 rfl kv_X6_72 (c_X6_next hq19) ⟨rfl, rfl⟩ ⟨Nat.le_of_ble_eq_true rfl, Nat.le_of_ble_eq_true rfl⟩ (rv_obj (ci := 6) C 0 0 rfl rfl rfl) [0, 3] [1, 2] [2, 0, 1, 3] rfl rfl rfl rfl (by decide) rfl rfl rfl rfl ⟨Nat.zero_le _, Nat.zero_le _⟩ (Nat.le_of_ble_eq_true rfl) ?_
            refine wa_aload_n C 0 94 dX6_friendsLine_93 rfl rfl ?_
            obtain ⟨q21, hq21, hf⟩ := bind_ex hf
            refine we_callVi (ws' := [wRd dT a (a_v 0) (a_f 0) h_picks h_keeps bt q21.2, wV dT a_v v_v, wF dT a_f q17, [(bt, .inl (dT 2, nt, .inl ut))]]) (As := []) C E 97 dX6_friendsLine_94 rfl kv_X6_134 (c_X6_lineEnd hq21) ⟨rfl, rfl⟩ ⟨Nat.le_of_ble_eq_true rfl, Nat.le_of_ble_eq_true rfl⟩ (rv_obj (ci := 6) C 0 0 rfl rfl rfl) [0, 3] [1, 2] [2, 0, 1, 3] rfl rfl rfl rfl (by decide) rfl rfl rfl rfl ⟨Nat.zero_le _, Nat.zero_le _⟩ (Nat.le_of_ble_eq_true rfl) ?_
            cases hf
            exact wa_iret C dX6_friendsLine_97 rfl rfl
          · replace hf := ite_f hf c16
            refine wa_iconst (v := 4) C 76 dX6_friendsLine_75 rfl rfl ?_
            cases hf
            exact wa_iret C dX6_friendsLine_76 rfl rfl
      · replace hf := ite_f hf c12
        refine wa_iload_n C 1 48 dX6_friendsLine_47 rfl rfl ?_
        cases hf
        exact wa_iret C dX6_friendsLine_48 rfl rfl
    · replace hf := ite_f hf c6
      refine wa_iload_n C 1 28 dX6_friendsLine_27 rfl rfl ?_
      cases hf
      exact wa_iret C dX6_friendsLine_28 rfl rfl
  · replace hf := ite_f hf c1
    refine wa_iconst (v := 2) C 13 dX6_friendsLine_12 rfl rfl ?_
    cases hf
    exact wa_iret C dX6_friendsLine_13 rfl rfl
theorem kv_X6_105 : KV RX6 105 yX6_isWord cX6_isWord 3 (some .boolean) 1 := KV.mk q800 q802 qs17 q2 q803 ⟨by decide, by decide, by decide +kernel⟩
def f_X6_valueAsked (v : Ob) (ut : (Nat → Int32)) (nt : Nat) : Option (Int32) := (f_X6_isWord v ut nt 7).bind (fun q1 => (if q1 = 0 then (f_X6_isWord v ut nt 8).bind (fun q4 => (if q4 = 0 then (if (v.1 10) = 0 then (f_X6_isWord v ut nt 3).bind (fun q8 => (if q8 = 0 then (f_X6_isWord v ut nt 13).bind (fun q11 => (if q11 = 0 then (f_X6_isWord v ut nt 14).bind (fun q14 => (if q14 = 0 then some ((-1 : Int32)) else some ((8 : Int32)))) else some ((7 : Int32)))) else some ((6 : Int32)))) else (f_X6_isWord v ut nt 9).bind (fun q17 => (if q17 = 0 then (f_X6_isWord v ut nt 10).bind (fun q20 => (if q20 = 0 then (f_X6_isWord v ut nt 11).bind (fun q23 => (if q23 = 0 then (f_X6_isWord v ut nt 12).bind (fun q26 => (if q26 = 0 then some ((-1 : Int32)) else some ((3 : Int32)))) else some ((2 : Int32)))) else some ((1 : Int32)))) else some ((0 : Int32))))) else some ((5 : Int32)))) else some ((4 : Int32))))
set_option maxRecDepth 20000 in
theorem c_X6_valueAsked {l : Launch} {D : va_G} {dT : Nat → ClassId} {a : Nat → Nat} {bt : Nat} {h_village : Nat} {h_friends : Nat} {h_picks : Nat} {h_keeps : Nat} {aK aV : Nat → Nat} {nt : Nat} {v : Ob} {ut : (Nat → Int32)} {res : Int32} (hf : f_X6_valueAsked v ut nt = some res) : CEi aK aV l yX6_valueAsked cX6_valueAsked 1 (some .int) ({ frames := 5, cells := 0, slots := 0, locals := 107 } : Room) D dT [.ref (a 0)] ([wRd dT a h_village h_friends h_picks h_keeps bt v, [(bt, .inl (dT 2, nt, .inl ut))]]) ([wRd dT a h_village h_friends h_picks h_keeps bt v, [(bt, .inl (dT 2, nt, .inl ut))]]) res := by
  refine CEi.of (by decide) (Nat.le_of_ble_eq_true rfl) rfl ?_
  intro p e s m args below meth c A C E
  unfold f_X6_valueAsked at hf
  refine wa_aload_n C 0 1 dX6_valueAsked_0 rfl rfl ?_
  refine wa_ldcS C E 7 3 dX6_valueAsked_1 rfl rfl ?_
  obtain ⟨q1, hq1, hf⟩ := bind_ex hf
  refine we_callVi (ws' := [wRd dT a h_village h_friends h_picks h_keeps bt v, [(bt, .inl (dT 2, nt, .inl ut))]]) (As := [.ref (aK 7)]) C E 6 dX6_valueAsked_3 rfl kv_X6_105 (c_X6_isWord hq1) ⟨rfl, rfl⟩ ⟨Nat.le_of_ble_eq_true rfl, Nat.le_of_ble_eq_true rfl⟩ (rv_obj (ci := 6) C 0 0 rfl rfl rfl) [0, 1] [] [0, 1] rfl rfl rfl rfl (by decide) rfl rfl rfl rfl ⟨Nat.zero_le _, Nat.zero_le _⟩ (Nat.le_of_ble_eq_true rfl) ?_
  refine wa_if_eq C 11 9 dX6_valueAsked_6 rfl rfl (fun c3 => ?_) (fun c3 => ?_)
  · replace hf := ite_t hf c3
    refine wa_aload_n C 0 12 dX6_valueAsked_11 rfl rfl ?_
    refine wa_ldcS C E 8 14 dX6_valueAsked_12 rfl rfl ?_
    obtain ⟨q4, hq4, hf⟩ := bind_ex hf
    refine we_callVi (ws' := [wRd dT a h_village h_friends h_picks h_keeps bt v, [(bt, .inl (dT 2, nt, .inl ut))]]) (As := [.ref (aK 8)]) C E 17 dX6_valueAsked_14 rfl kv_X6_105 (c_X6_isWord hq4) ⟨rfl, rfl⟩ ⟨Nat.le_of_ble_eq_true rfl, Nat.le_of_ble_eq_true rfl⟩ (rv_obj (ci := 6) C 0 0 rfl rfl rfl) [0, 1] [] [0, 1] rfl rfl rfl rfl (by decide) rfl rfl rfl rfl ⟨Nat.zero_le _, Nat.zero_le _⟩ (Nat.le_of_ble_eq_true rfl) ?_
    refine wa_if_eq C 22 20 dX6_valueAsked_17 rfl rfl (fun c6 => ?_) (fun c6 => ?_)
    · replace hf := ite_t hf c6
      refine wa_aload_n C 0 23 dX6_valueAsked_22 rfl rfl ?_
      refine wa_get C 26 0 0 10 dX6_valueAsked_23 rfl iX6 q171 rfl (Nat.le_of_ble_eq_true rfl) rfl rfl rfl ?_
      refine wa_if_eq C 83 29 dX6_valueAsked_26 rfl rfl (fun c7 => ?_) (fun c7 => ?_)
      · replace hf := ite_t hf c7
        refine wa_aload_n C 0 84 dX6_valueAsked_83 rfl rfl ?_
        refine wa_ldcS C E 3 86 dX6_valueAsked_84 rfl rfl ?_
        obtain ⟨q8, hq8, hf⟩ := bind_ex hf
        refine we_callVi (ws' := [wRd dT a h_village h_friends h_picks h_keeps bt v, [(bt, .inl (dT 2, nt, .inl ut))]]) (As := [.ref (aK 3)]) C E 89 dX6_valueAsked_86 rfl kv_X6_105 (c_X6_isWord hq8) ⟨rfl, rfl⟩ ⟨Nat.le_of_ble_eq_true rfl, Nat.le_of_ble_eq_true rfl⟩ (rv_obj (ci := 6) C 0 0 rfl rfl rfl) [0, 1] [] [0, 1] rfl rfl rfl rfl (by decide) rfl rfl rfl rfl ⟨Nat.zero_le _, Nat.zero_le _⟩ (Nat.le_of_ble_eq_true rfl) ?_
        refine wa_if_eq C 97 92 dX6_valueAsked_89 rfl rfl (fun c10 => ?_) (fun c10 => ?_)
        · replace hf := ite_t hf c10
          refine wa_aload_n C 0 98 dX6_valueAsked_97 rfl rfl ?_
          refine wa_ldcS C E 13 100 dX6_valueAsked_98 rfl rfl ?_
          obtain ⟨q11, hq11, hf⟩ := bind_ex hf
          refine we_callVi (ws' := [wRd dT a h_village h_friends h_picks h_keeps bt v, [(bt, .inl (dT 2, nt, .inl ut))]]) (As := [.ref (aK 13)]) C E 103 dX6_valueAsked_100 rfl kv_X6_105 (c_X6_isWord hq11) ⟨rfl, rfl⟩ ⟨Nat.le_of_ble_eq_true rfl, Nat.le_of_ble_eq_true rfl⟩ (rv_obj (ci := 6) C 0 0 rfl rfl rfl) [0, 1] [] [0, 1] rfl rfl rfl rfl (by decide) rfl rfl rfl rfl ⟨Nat.zero_le _, Nat.zero_le _⟩ (Nat.le_of_ble_eq_true rfl) ?_
          refine wa_if_eq C 111 106 dX6_valueAsked_103 rfl rfl (fun c13 => ?_) (fun c13 => ?_)
          · replace hf := ite_t hf c13
            refine wa_aload_n C 0 112 dX6_valueAsked_111 rfl rfl ?_
            refine wa_ldcS C E 14 114 dX6_valueAsked_112 rfl rfl ?_
            obtain ⟨q14, hq14, hf⟩ := bind_ex hf
            refine we_callVi (ws' := [wRd dT a h_village h_friends h_picks h_keeps bt v, [(bt, .inl (dT 2, nt, .inl ut))]]) (As := [.ref (aK 14)]) C E 117 dX6_valueAsked_114 rfl kv_X6_105 (c_X6_isWord hq14) ⟨rfl, rfl⟩ ⟨Nat.le_of_ble_eq_true rfl, Nat.le_of_ble_eq_true rfl⟩ (rv_obj (ci := 6) C 0 0 rfl rfl rfl) [0, 1] [] [0, 1] rfl rfl rfl rfl (by decide) rfl rfl rfl rfl ⟨Nat.zero_le _, Nat.zero_le _⟩ (Nat.le_of_ble_eq_true rfl) ?_
            refine wa_if_eq C 125 120 dX6_valueAsked_117 rfl rfl (fun c16 => ?_) (fun c16 => ?_)
            · replace hf := ite_t hf c16
              refine wa_iconst (v := (-1)) C 126 dX6_valueAsked_125 rfl rfl ?_
              cases hf
              exact wa_iret C dX6_valueAsked_126 rfl rfl
            · replace hf := ite_f hf c16
              refine wa_bipush (v := 8) C 122 dX6_valueAsked_120 rfl rfl ?_
              refine wa_goto C 126 dX6_valueAsked_122 rfl ?_
              cases hf
              exact wa_iret C dX6_valueAsked_126 rfl rfl
          · replace hf := ite_f hf c13
            refine wa_bipush (v := 7) C 108 dX6_valueAsked_106 rfl rfl ?_
            refine wa_goto C 126 dX6_valueAsked_108 rfl ?_
            cases hf
            exact wa_iret C dX6_valueAsked_126 rfl rfl
        · replace hf := ite_f hf c10
          refine wa_bipush (v := 6) C 94 dX6_valueAsked_92 rfl rfl ?_
          refine wa_goto C 126 dX6_valueAsked_94 rfl ?_
          cases hf
          exact wa_iret C dX6_valueAsked_126 rfl rfl
      · replace hf := ite_f hf c7
        refine wa_aload_n C 0 30 dX6_valueAsked_29 rfl rfl ?_
        refine wa_ldcS C E 9 32 dX6_valueAsked_30 rfl rfl ?_
        obtain ⟨q17, hq17, hf⟩ := bind_ex hf
        refine we_callVi (ws' := [wRd dT a h_village h_friends h_picks h_keeps bt v, [(bt, .inl (dT 2, nt, .inl ut))]]) (As := [.ref (aK 9)]) C E 35 dX6_valueAsked_32 rfl kv_X6_105 (c_X6_isWord hq17) ⟨rfl, rfl⟩ ⟨Nat.le_of_ble_eq_true rfl, Nat.le_of_ble_eq_true rfl⟩ (rv_obj (ci := 6) C 0 0 rfl rfl rfl) [0, 1] [] [0, 1] rfl rfl rfl rfl (by decide) rfl rfl rfl rfl ⟨Nat.zero_le _, Nat.zero_le _⟩ (Nat.le_of_ble_eq_true rfl) ?_
        refine wa_if_eq C 42 38 dX6_valueAsked_35 rfl rfl (fun c19 => ?_) (fun c19 => ?_)
        · replace hf := ite_t hf c19
          refine wa_aload_n C 0 43 dX6_valueAsked_42 rfl rfl ?_
          refine wa_ldcS C E 10 45 dX6_valueAsked_43 rfl rfl ?_
          obtain ⟨q20, hq20, hf⟩ := bind_ex hf
          refine we_callVi (ws' := [wRd dT a h_village h_friends h_picks h_keeps bt v, [(bt, .inl (dT 2, nt, .inl ut))]]) (As := [.ref (aK 10)]) C E 48 dX6_valueAsked_45 rfl kv_X6_105 (c_X6_isWord hq20) ⟨rfl, rfl⟩ ⟨Nat.le_of_ble_eq_true rfl, Nat.le_of_ble_eq_true rfl⟩ (rv_obj (ci := 6) C 0 0 rfl rfl rfl) [0, 1] [] [0, 1] rfl rfl rfl rfl (by decide) rfl rfl rfl rfl ⟨Nat.zero_le _, Nat.zero_le _⟩ (Nat.le_of_ble_eq_true rfl) ?_
          refine wa_if_eq C 55 51 dX6_valueAsked_48 rfl rfl (fun c22 => ?_) (fun c22 => ?_)
          · replace hf := ite_t hf c22
            refine wa_aload_n C 0 56 dX6_valueAsked_55 rfl rfl ?_
            refine wa_ldcS C E 11 58 dX6_valueAsked_56 rfl rfl ?_
            obtain ⟨q23, hq23, hf⟩ := bind_ex hf
            refine we_callVi (ws' := [wRd dT a h_village h_friends h_picks h_keeps bt v, [(bt, .inl (dT 2, nt, .inl ut))]]) (As := [.ref (aK 11)]) C E 61 dX6_valueAsked_58 rfl kv_X6_105 (c_X6_isWord hq23) ⟨rfl, rfl⟩ ⟨Nat.le_of_ble_eq_true rfl, Nat.le_of_ble_eq_true rfl⟩ (rv_obj (ci := 6) C 0 0 rfl rfl rfl) [0, 1] [] [0, 1] rfl rfl rfl rfl (by decide) rfl rfl rfl rfl ⟨Nat.zero_le _, Nat.zero_le _⟩ (Nat.le_of_ble_eq_true rfl) ?_
            refine wa_if_eq C 68 64 dX6_valueAsked_61 rfl rfl (fun c25 => ?_) (fun c25 => ?_)
            · replace hf := ite_t hf c25
              refine wa_aload_n C 0 69 dX6_valueAsked_68 rfl rfl ?_
              refine wa_ldcS C E 12 71 dX6_valueAsked_69 rfl rfl ?_
              obtain ⟨q26, hq26, hf⟩ := bind_ex hf
              refine we_callVi (ws' := [wRd dT a h_village h_friends h_picks h_keeps bt v, [(bt, .inl (dT 2, nt, .inl ut))]]) (As := [.ref (aK 12)]) C E 74 dX6_valueAsked_71 rfl kv_X6_105 (c_X6_isWord hq26) ⟨rfl, rfl⟩ ⟨Nat.le_of_ble_eq_true rfl, Nat.le_of_ble_eq_true rfl⟩ (rv_obj (ci := 6) C 0 0 rfl rfl rfl) [0, 1] [] [0, 1] rfl rfl rfl rfl (by decide) rfl rfl rfl rfl ⟨Nat.zero_le _, Nat.zero_le _⟩ (Nat.le_of_ble_eq_true rfl) ?_
              refine wa_if_eq C 81 77 dX6_valueAsked_74 rfl rfl (fun c28 => ?_) (fun c28 => ?_)
              · replace hf := ite_t hf c28
                refine wa_iconst (v := (-1)) C 82 dX6_valueAsked_81 rfl rfl ?_
                cases hf
                exact wa_iret C dX6_valueAsked_82 rfl rfl
              · replace hf := ite_f hf c28
                refine wa_iconst (v := 3) C 78 dX6_valueAsked_77 rfl rfl ?_
                refine wa_goto C 82 dX6_valueAsked_78 rfl ?_
                cases hf
                exact wa_iret C dX6_valueAsked_82 rfl rfl
            · replace hf := ite_f hf c25
              refine wa_iconst (v := 2) C 65 dX6_valueAsked_64 rfl rfl ?_
              refine wa_goto C 82 dX6_valueAsked_65 rfl ?_
              cases hf
              exact wa_iret C dX6_valueAsked_82 rfl rfl
          · replace hf := ite_f hf c22
            refine wa_iconst (v := 1) C 52 dX6_valueAsked_51 rfl rfl ?_
            refine wa_goto C 82 dX6_valueAsked_52 rfl ?_
            cases hf
            exact wa_iret C dX6_valueAsked_82 rfl rfl
        · replace hf := ite_f hf c19
          refine wa_iconst (v := 0) C 39 dX6_valueAsked_38 rfl rfl ?_
          refine wa_goto C 82 dX6_valueAsked_39 rfl ?_
          cases hf
          exact wa_iret C dX6_valueAsked_82 rfl rfl
    · replace hf := ite_f hf c6
      refine wa_iconst (v := 5) C 21 dX6_valueAsked_20 rfl rfl ?_
      cases hf
      exact wa_iret C dX6_valueAsked_21 rfl rfl
  · replace hf := ite_f hf c3
    refine wa_iconst (v := 4) C 10 dX6_valueAsked_9 rfl rfl ?_
    cases hf
    exact wa_iret C dX6_valueAsked_10 rfl rfl
