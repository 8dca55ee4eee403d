theorem kv_X12_418 : KV RX12 418 yX12_knows cX12_knows 2 none 0 := KV.mk q2033 q2035 qs113 q13 q2036 ⟨by decide, by decide, by decide +kernel⟩
theorem kv_X12_421 : KV RX12 421 yX12_unknown cX12_unknown 3 (some .int) 0 := KV.mk q2037 q2039 qs114 q13 q2040 ⟨by decide, by decide, by decide +kernel⟩
def f_X12_allKnownIn_L25 : Nat → Int32 → MS → Option (Int32 × MS)
  | 0, _, _ => none
  | n + 1, l1, z0 => (if (100 : Int32) < l1 then some ((9999 : Int32), z0) else (f_X12_knows z0).bind (fun q3 => (f_X12_unknown q3).bind (fun q4 => (if q4 = 0 then some (l1, q3) else (f_X12_eveningGoes q3 (86 : Int32)).bind (fun q6 => bnd (l1 + 1) (fun x7 => f_X12_allKnownIn_L25 n x7 q6))))))
def f_X12_allKnownIn_L2 : Nat → Int32 → MS → Option (Int32 × MS)
  | 0, _, _ => none
  | n + 1, l1, z0 => (if (z0.1 1) ≤ l1 then f_X12_allKnownIn_L25 FUEL (0 : Int32) z0 else grd (vi l1 12) (bnd (z0.1, z0.2.1, uA z0.2.2 17 (l1).toNatClampNeg (0 : Int32)) (fun y9 => bnd (l1 + 1) (fun x10 => f_X12_allKnownIn_L2 n x10 y9))))
def f_X12_allKnownIn (v : MS) : Option (Int32 × MS) := f_X12_allKnownIn_L2 FUEL (0 : Int32) v
set_option maxRecDepth 20000 in
theorem w_X12_allKnownIn_L25 {p : Program} {l : Launch} {e : Env} {s : State} {m : MethodId} {args : Array Value} {below : List Frame} {meth : Method} {c : Code} {D : va_G} {A : Nat → Prop} {dT : Nat → ClassId} {a : Nat → Nat} {res : Int32 × MS} (C : Cx p s m args meth c cX12_allKnownIn 2 RX12 (some .int) D A dT) : ∀ (n : Nat) (l1 : Int32) (z0 : MS), f_X12_allKnownIn_L25 n l1 z0 = some res → WA p l e ({ frames := 5, cells := 0, slots := 0, locals := 120 } : Room) s m args below meth c (MQ below (QI D dT A ([wM dT a res.2]) res.1) args s 0 0 A) D A 0 0 2 25 ([wM dT a z0]) [(0, .ref (a 0)), (1, .int l1)] [] := by
  intro n
  induction n with
  | zero => intro l1 z0 hf; cases hf
  | succ n ih =>
    intro l1 z0 hf
    unfold f_X12_allKnownIn_L25 at hf
    refine wa_iload_n C 1 26 dX12_allKnownIn_25 rfl rfl ?_
    refine wa_bipush (v := 100) C 28 dX12_allKnownIn_26 rfl rfl ?_
    refine wa_icmp_gt C 56 31 dX12_allKnownIn_28 rfl rfl (fun c2 => ?_) (fun c2 => ?_)
    · replace hf := ite_t hf c2
      refine wa_sipush (v := 9999) C 59 dX12_allKnownIn_56 rfl rfl ?_
      cases hf
      exact wa_iret C dX12_allKnownIn_59 rfl rfl
    · replace hf := ite_f hf c2
      refine wa_aload_n C 0 32 dX12_allKnownIn_31 rfl rfl ?_
      obtain ⟨q3, hq3, hf⟩ := bind_ex hf
      refine wa_callVAv (b1 := 0) (q1 := 0) (ci := 12) (As := []) C 35 dX12_allKnownIn_32 rfl kv_X12_418 (c_X12_knows hq3) ⟨rfl, rfl⟩ ⟨Nat.le_of_ble_eq_true rfl, Nat.le_of_ble_eq_true rfl⟩ rfl rfl rfl rfl rfl ⟨Nat.zero_le _, Nat.zero_le _⟩ (Nat.le_of_ble_eq_true rfl) ?_
      refine wa_aload_n C 0 36 dX12_allKnownIn_35 rfl rfl ?_
      obtain ⟨q4, hq4, hf⟩ := bind_ex hf
      refine wa_callVAi (b1 := 0) (q1 := 0) (ci := 12) (As := []) C 39 dX12_allKnownIn_36 rfl kv_X12_421 (c_X12_unknown hq4) ⟨rfl, rfl⟩ ⟨Nat.le_of_ble_eq_true rfl, Nat.le_of_ble_eq_true rfl⟩ rfl rfl rfl rfl rfl ⟨Nat.zero_le _, Nat.zero_le _⟩ (Nat.le_of_ble_eq_true rfl) ?_
      refine wa_if_ne C 44 42 dX12_allKnownIn_39 rfl rfl (fun c5 => ?_) (fun c5 => ?_)
      · replace hf := ite_f hf c5
        refine wa_aload_n C 0 45 dX12_allKnownIn_44 rfl rfl ?_
        refine wa_bipush (v := 86) C 47 dX12_allKnownIn_45 rfl rfl ?_
        obtain ⟨q6, hq6, hf⟩ := bind_ex hf
        refine wa_callVAv (b1 := 0) (q1 := 0) (ci := 12) (As := [.int (86 : Int32)]) C 50 dX12_allKnownIn_47 rfl kv_X12_334 (c_X12_eveningGoes hq6) ⟨rfl, rfl⟩ ⟨Nat.le_of_ble_eq_true rfl, Nat.le_of_ble_eq_true rfl⟩ rfl rfl rfl rfl rfl ⟨Nat.zero_le _, Nat.zero_le _⟩ (Nat.le_of_ble_eq_true rfl) ?_
        obtain ⟨x7, ex7, hf⟩ := bnd_ex hf
        refine wa_iinc (v := x7) (lv' := [(0, .ref (a 0)), (1, .int x7)]) C 1 [1, 0] 53 dX12_allKnownIn_50 rfl rfl (by rw [ex7]; rfl) (Nat.le_of_ble_eq_true rfl) rfl ?_
        refine wa_goto C 25 dX12_allKnownIn_53 rfl ?_
        exact ih x7 q6 hf
      · replace hf := ite_t hf c5
        refine wa_iload_n C 1 43 dX12_allKnownIn_42 rfl rfl ?_
        cases hf
        exact wa_iret C dX12_allKnownIn_43 rfl rfl
set_option maxRecDepth 20000 in
theorem w_X12_allKnownIn_L2 {p : Program} {l : Launch} {e : Env} {s : State} {m : MethodId} {args : Array Value} {below : List Frame} {meth : Method} {c : Code} {D : va_G} {A : Nat → Prop} {dT : Nat → ClassId} {a : Nat → Nat} {res : Int32 × MS} (C : Cx p s m args meth c cX12_allKnownIn 2 RX12 (some .int) D A dT) : ∀ (n : Nat) (l1 : Int32) (z0 : MS), f_X12_allKnownIn_L2 n l1 z0 = some res → WA p l e ({ frames := 5, cells := 0, slots := 0, locals := 120 } : Room) s m args below meth c (MQ below (QI D dT A ([wM dT a res.2]) res.1) args s 0 0 A) D A 0 0 2 2 ([wM dT a z0]) [(0, .ref (a 0)), (1, .int l1)] [] := by
  intro n
  induction n with
  | zero => intro l1 z0 hf; cases hf
  | succ n ih =>
    intro l1 z0 hf
    unfold f_X12_allKnownIn_L2 at hf
    refine wa_iload_n C 1 3 dX12_allKnownIn_2 rfl rfl ?_
    refine wa_aload_n C 0 4 dX12_allKnownIn_3 rfl rfl ?_
    refine wa_get C 7 0 0 1 dX12_allKnownIn_4 rfl iX12 q1450 rfl (Nat.le_of_ble_eq_true rfl) rfl rfl rfl ?_
    refine wa_icmp_ge C 23 10 dX12_allKnownIn_7 rfl rfl (fun c1 => ?_) (fun c1 => ?_)
    · replace hf := ite_t hf c1
      refine wa_iconst (v := 0) C 24 dX12_allKnownIn_23 rfl rfl ?_
      refine wa_istore_n (lv' := [(0, .ref (a 0)), (1, .int (0 : Int32))]) C [1, 0] 25 dX12_allKnownIn_24 rfl (Nat.le_of_ble_eq_true rfl) rfl ?_
      exact w_X12_allKnownIn_L25 C FUEL (0 : Int32) z0 hf
    · replace hf := ite_f hf c1
      refine wa_aload_n C 0 11 dX12_allKnownIn_10 rfl rfl ?_
      refine wa_get C 14 0 0 45 dX12_allKnownIn_11 rfl iX12 q1494 rfl (Nat.le_of_ble_eq_true rfl) rfl rfl rfl ?_
      refine wa_iload_n C 1 15 dX12_allKnownIn_14 rfl rfl ?_
      refine wa_iconst (v := 0) C 16 dX12_allKnownIn_15 rfl rfl ?_
      obtain ⟨g8, hf⟩ := grd_ex hf
      obtain ⟨y9, ey9, hf⟩ := bnd_ex hf
      refine wa_iast (ws' := [wM dT a y9]) C 17 0 17 dX12_allKnownIn_16 rfl rfl rfl (vi_in g8) (by rw [ey9]; rfl) ?_
      obtain ⟨x10, ex10, hf⟩ := bnd_ex hf
      refine wa_iinc (v := x10) (lv' := [(0, .ref (a 0)), (1, .int x10)]) C 1 [1, 0] 20 dX12_allKnownIn_17 rfl rfl (by rw [ex10]; rfl) (Nat.le_of_ble_eq_true rfl) rfl ?_
      refine wa_goto C 2 dX12_allKnownIn_20 rfl ?_
      exact ih x10 y9 hf
set_option maxRecDepth 20000 in
theorem c_X12_allKnownIn {l : Launch} {D : va_G} {dT : Nat → ClassId} {a : Nat → Nat} {v : MS} {res : Int32 × MS} (hf : f_X12_allKnownIn v = some res) : CTi l yX12_allKnownIn cX12_allKnownIn 2 (some .int) ({ frames := 5, cells := 0, slots := 0, locals := 120 } : Room) D dT [.ref (a 0)] ([wM dT a v]) ([wM dT a res.2]) res.1 := by
  refine CTi.of (by decide) (Nat.le_of_ble_eq_true rfl) rfl ?_
  intro p e s m args below meth c A C
  unfold f_X12_allKnownIn at hf
  refine wa_iconst (v := 0) C 1 dX12_allKnownIn_0 rfl rfl ?_
  refine wa_istore_n (lv' := [(0, .ref (a 0)), (1, .int (0 : Int32))]) C [1, 0] 2 dX12_allKnownIn_1 rfl (Nat.le_of_ble_eq_true rfl) rfl ?_
  exact w_X12_allKnownIn_L2 C FUEL (0 : Int32) v hf
theorem kv_X12_424 : KV RX12 424 yX12_allKnownIn cX12_allKnownIn 2 (some .int) 0 := KV.mk q2029 q2031 qs112 q13 q2032 ⟨by decide, by decide, by decide +kernel⟩
def f_X12_allKnown (v : MS) : Option (Int32 × MS) := bnd (upd v.1 0 (0 : Int32), v.2) (fun y1 => (f_X12_tries y1).bind (fun q2 => (f_X12_allKnownIn q2).bind (fun q3 => (if q3.1 = (9999 : Int32) then some ((-1 : Int32), q3.2) else some (q3.1, q3.2)))))
set_option maxRecDepth 20000 in
theorem c_X12_allKnown {l : Launch} {D : va_G} {dT : Nat → ClassId} {a : Nat → Nat} {v : MS} {res : Int32 × MS} (hf : f_X12_allKnown v = some res) : CTi l yX12_allKnown cX12_allKnown 2 (some .int) ({ frames := 6, cells := 0, slots := 0, locals := 141 } : Room) D dT [.ref (a 0)] ([wM dT a v]) ([wM dT a res.2]) res.1 := by
  refine CTi.of (by decide) (Nat.le_of_ble_eq_true rfl) rfl ?_
  intro p e s m args below meth c A C
  unfold f_X12_allKnown at hf
  refine wa_aload_n C 0 1 dX12_allKnown_0 rfl rfl ?_
  refine wa_iconst (v := 0) C 2 dX12_allKnown_1 rfl rfl ?_
  obtain ⟨y1, ey1, hf⟩ := bnd_ex hf
  refine wa_put (ws' := [wM dT a y1]) C 5 0 0 0 tyX12 dX12_allKnown_2 rfl iX12 tyX12_ok nmX12 q1449 rfl (Nat.le_of_ble_eq_true rfl) rfl rfl rfl rfl rfl (Nat.le_of_ble_eq_true rfl) (by rw [ey1]; rfl) ?_
  refine wa_aload_n C 0 6 dX12_allKnown_5 rfl rfl ?_
  obtain ⟨q2, hq2, hf⟩ := bind_ex hf
  refine wa_callVAv (b1 := 0) (q1 := 0) (ci := 12) (As := []) C 9 dX12_allKnown_6 rfl kv_X12_337 (c_X12_tries hq2) ⟨rfl, rfl⟩ ⟨Nat.le_of_ble_eq_true rfl, Nat.le_of_ble_eq_true rfl⟩ rfl rfl rfl rfl rfl ⟨Nat.zero_le _, Nat.zero_le _⟩ (Nat.le_of_ble_eq_true rfl) ?_
  refine wa_aload_n C 0 10 dX12_allKnown_9 rfl rfl ?_
  obtain ⟨q3, hq3, hf⟩ := bind_ex hf
  refine wa_callVAi (b1 := 0) (q1 := 0) (ci := 12) (As := []) C 13 dX12_allKnown_10 rfl kv_X12_424 (c_X12_allKnownIn hq3) ⟨rfl, rfl⟩ ⟨Nat.le_of_ble_eq_true rfl, Nat.le_of_ble_eq_true rfl⟩ rfl rfl rfl rfl rfl ⟨Nat.zero_le _, Nat.zero_le _⟩ (Nat.le_of_ble_eq_true rfl) ?_
  refine wa_istore_n (lv' := [(0, .ref (a 0)), (1, .int q3.1)]) C [1, 0] 14 dX12_allKnown_13 rfl (Nat.le_of_ble_eq_true rfl) rfl ?_
  refine wa_iload_n C 1 15 dX12_allKnown_14 rfl rfl ?_
  refine wa_sipush (v := 9999) C 18 dX12_allKnown_15 rfl rfl ?_
  refine wa_icmp_ne C 25 21 dX12_allKnown_18 rfl rfl (fun c4 => ?_) (fun c4 => ?_)
  · replace hf := ite_f hf c4
    refine wa_iload_n C 1 26 dX12_allKnown_25 rfl rfl ?_
    cases hf
    exact wa_iret C dX12_allKnown_26 rfl rfl
  · replace hf := ite_t hf c4
    refine wa_iconst (v := (-1)) C 22 dX12_allKnown_21 rfl rfl ?_
    refine wa_goto C 26 dX12_allKnown_22 rfl ?_
    cases hf
    exact wa_iret C dX12_allKnown_26 rfl rfl
def f_X12_ahead_L214 (l2 : Int32) (l3 : Int32) (l4 : Int32) (z0 : MS) : Nat → Int32 → Int32 → Option (Int32 × MS)
  | 0, _, _ => none
  | n + 1, l5, l6 => grd (vi (87 : Int32) 172) ((if (z0.2.2 10 ((87 : Int32)).toNatClampNeg) ≤ l6 then (if l2 = 0 then some (l3, z0) else (if l2 = (1 : Int32) then some (l4, z0) else (if l2 = (2 : Int32) then some (l5, z0) else (f_X12_unknown z0).bind (fun q16 => some (q16, z0))))) else grd (vi ((148 : Int32) + l6) 172) ((if (z0.2.2 10 (((148 : Int32) + l6)).toNatClampNeg) ≤ l5 then bnd (l6 + 1) (fun x19 => f_X12_ahead_L214 l2 l3 l4 z0 n l5 x19) else grd (vi ((148 : Int32) + l6) 172) (bnd (z0.2.2 10 (((148 : Int32) + l6)).toNatClampNeg) (fun x21 => bnd (l6 + 1) (fun x22 => f_X12_ahead_L214 l2 l3 l4 z0 n x21 x22)))))))
def f_X12_ahead_J172 (k135 : Int32 → Int32 → Int32 → Option (Int32 × MS)) (l2 : Int32) (l5 : Int32) (z0 : MS) (l3 : Int32) (l4 : Int32) (l6 : Int32) : Option (Int32 × MS) := (if l4 = (-1 : Int32) then bnd (l6 + 1) (fun x28 => k135 l3 l6 x28) else grd (vi ((112 : Int32) + l6) 172) (grd (vi ((112 : Int32) + l4) 172) ((if (z0.2.2 10 (((112 : Int32) + l6)).toNatClampNeg) ≤ (z0.2.2 10 (((112 : Int32) + l4)).toNatClampNeg) then bnd (l6 + 1) (fun x32 => k135 l3 l4 x32) else bnd (l6 + 1) (fun x33 => k135 l3 l6 x33)))))
def f_X12_ahead_J166 (k135 : Int32 → Int32 → Int32 → Option (Int32 × MS)) (l2 : Int32) (l5 : Int32) (z0 : MS) (l3 : Int32) (l4 : Int32) (l6 : Int32) (t0 : Int32) (t1 : Int32) : Option (Int32 × MS) := (if t1 ≤ t0 then f_X12_ahead_J172 (k135) l2 l5 z0 l3 l4 l6 else f_X12_ahead_J172 (k135) l2 l5 z0 l6 l4 l6)
def f_X12_ahead_L135 (l2 : Int32) (l5 : Int32) (z0 : MS) : Nat → Int32 → Int32 → Int32 → Option (Int32 × MS)
  | 0, _, _, _ => none
  | n + 1, l3, l4, l6 => (if (z0.1 1) ≤ l6 then f_X12_ahead_L214 l2 l3 l4 z0 FUEL l5 (0 : Int32) else grd (vi l6 12) ((if l3 = (-1 : Int32) then f_X12_ahead_J166 (f_X12_ahead_L135 l2 l5 z0 n) l2 l5 z0 l3 l4 l6 (0 : Int32) (z0.2.2 18 (l6).toNatClampNeg) else grd (vi l3 12) (f_X12_ahead_J166 (f_X12_ahead_L135 l2 l5 z0 n) l2 l5 z0 l3 l4 l6 (z0.2.2 18 (l3).toNatClampNeg) (z0.2.2 18 (l6).toNatClampNeg)))))
def f_X12_ahead_L84 (k66 : Int32 → MS → Option (Int32 × MS)) (l1 : Int32) (l2 : Int32) (l3 : Int32) : Nat → Int32 → MS → Option (Int32 × MS)
  | 0, _, _ => none
  | n + 1, l4, z0 => (if (z0.1 1) ≤ l4 then bnd (l3 + 1) (fun x37 => k66 x37 z0) else grd (vi l4 12) (grd (vi l4 12) (bnd (z0.1, z0.2.1, uA z0.2.2 18 (l4).toNatClampNeg ((z0.2.2 18 (l4).toNatClampNeg) + (((z0.1 41) >>> (l4 &&& 31)) &&& (1 : Int32)))) (fun y40 => bnd (l4 + 1) (fun x41 => f_X12_ahead_L84 k66 l1 l2 l3 n x41 y40)))))
def f_X12_ahead_L66 (l1 : Int32) (l2 : Int32) : Nat → Int32 → MS → Option (Int32 × MS)
  | 0, _, _ => none
  | n + 1, l3, z0 => (if l1 ≤ l3 then f_X12_ahead_L135 l2 (-1 : Int32) z0 FUEL (-1 : Int32) (-1 : Int32) (0 : Int32) else (f_X12_eveningGoes z0 (86 : Int32)).bind (fun q34 => (f_X12_knows q34).bind (fun q35 => f_X12_ahead_L84 (f_X12_ahead_L66 l1 l2 n) l1 l2 l3 FUEL (0 : Int32) q35)))
def f_X12_ahead_L32 (l1 : Int32) (l2 : Int32) : Nat → Int32 → MS → Option (Int32 × MS)
  | 0, _, _ => none
  | n + 1, l3, z0 => (if (z0.1 1) ≤ l3 then (f_X12_knows z0).bind (fun q8 => f_X12_ahead_L66 l1 l2 FUEL (0 : Int32) q8) else grd (vi l3 12) (bnd (z0.1, z0.2.1, uA z0.2.2 18 (l3).toNatClampNeg (0 : Int32)) (fun y43 => grd (vi l3 12) (bnd (y43.1, y43.2.1, uA y43.2.2 17 (l3).toNatClampNeg (0 : Int32)) (fun y45 => bnd (l3 + 1) (fun x46 => f_X12_ahead_L32 l1 l2 n x46 y45))))))
def f_X12_ahead (v : MS) (p0 : Int32) (p1 : Int32) : Option (Int32 × MS) := bnd (upd v.1 0 (0 : Int32), v.2) (fun y1 => (f_X12_isWhat y1 p1 (3 : Int32)).bind (fun q2 => (if q2.1 = 0 then some ((0 : Int32), q2.2) else (f_X12_isSoon q2.2 p0 (0 : Int32) (2 : Int32)).bind (fun q4 => (if q4.1 = 0 then some ((0 : Int32), q4.2) else (f_X12_tries q4.2).bind (fun q6 => f_X12_ahead_L32 p0 p1 FUEL (0 : Int32) q6))))))
set_option maxRecDepth 20000 in
theorem w_X12_ahead_L214 {p : Program} {l : Launch} {e : Env} {s : State} {m : MethodId} {args : Array Value} {below : List Frame} {meth : Method} {c : Code} {D : va_G} {A : Nat → Prop} {dT : Nat → ClassId} {a : Nat → Nat} {res : Int32 × MS} {l2 : Int32} {l3 : Int32} {l4 : Int32} {z0 : MS} (C : Cx p s m args meth c cX12_ahead 7 RX12 (some .int) D A dT) : ∀ (n : Nat) (l5 : Int32) (l6 : Int32), f_X12_ahead_L214 l2 l3 l4 z0 n l5 l6 = some res → WA p l e ({ frames := 5, cells := 0, slots := 0, locals := 120 } : Room) s m args below meth c (MQ below (QI D dT A ([wM dT a res.2]) res.1) args s 0 0 A) D A 0 0 7 214 ([wM dT a z0]) [(0, .ref (a 0)), (2, .int l2), (3, .int l3), (4, .int l4), (5, .int l5), (6, .int l6)] [] := by
  intro n
  induction n with
  | zero => intro l5 l6 hf; cases hf
  | succ n ih =>
    intro l5 l6 hf
    unfold f_X12_ahead_L214 at hf
    refine wa_iload C 5 216 dX12_ahead_214 rfl rfl ?_
    refine wa_aload_n C 0 217 dX12_ahead_216 rfl rfl ?_
    refine wa_get C 220 0 0 34 dX12_ahead_217 rfl iX12 q1483 rfl (Nat.le_of_ble_eq_true rfl) rfl rfl rfl ?_
    refine wa_bipush (v := 87) C 222 dX12_ahead_220 rfl rfl ?_
    obtain ⟨g11, hf⟩ := grd_ex hf
    refine wa_iald C 223 0 10 dX12_ahead_222 rfl rfl rfl (vi_in g11) ?_
    refine wa_icmp_ge C 266 226 dX12_ahead_223 rfl rfl (fun c12 => ?_) (fun c12 => ?_)
    · replace hf := ite_t hf c12
      refine wa_iload_n C 1 267 dX12_ahead_266 rfl rfl ?_
      refine wa_if_ne C 274 270 dX12_ahead_267 rfl rfl (fun c13 => ?_) (fun c13 => ?_)
      · replace hf := ite_f hf c13
        refine wa_iload_n C 1 275 dX12_ahead_274 rfl rfl ?_
        refine wa_iconst (v := 1) C 276 dX12_ahead_275 rfl rfl ?_
        refine wa_icmp_ne C 284 279 dX12_ahead_276 rfl rfl (fun c14 => ?_) (fun c14 => ?_)
        · replace hf := ite_f hf c14
          refine wa_iload_n C 1 285 dX12_ahead_284 rfl rfl ?_
          refine wa_iconst (v := 2) C 286 dX12_ahead_285 rfl rfl ?_
          refine wa_icmp_ne C 294 289 dX12_ahead_286 rfl rfl (fun c15 => ?_) (fun c15 => ?_)
          · replace hf := ite_f hf c15
            refine wa_aload_n C 0 295 dX12_ahead_294 rfl rfl ?_
            obtain ⟨q16, hq16, hf⟩ := bind_ex hf
            refine wa_callVAi (b1 := 0) (q1 := 0) (ci := 12) (As := []) C 298 dX12_ahead_295 rfl kv_X12_421 (c_X12_unknown hq16) ⟨rfl, rfl⟩ ⟨Nat.le_of_ble_eq_true rfl, Nat.le_of_ble_eq_true rfl⟩ rfl rfl rfl rfl rfl ⟨Nat.zero_le _, Nat.zero_le _⟩ (Nat.le_of_ble_eq_true rfl) ?_
            cases hf
            exact wa_iret C dX12_ahead_298 rfl rfl
          · replace hf := ite_t hf c15
            refine wa_iload C 4 291 dX12_ahead_289 rfl rfl ?_
            refine wa_goto C 298 dX12_ahead_291 rfl ?_
            cases hf
            exact wa_iret C dX12_ahead_298 rfl rfl
        · replace hf := ite_t hf c14
          refine wa_iload C 3 281 dX12_ahead_279 rfl rfl ?_
          refine wa_goto C 298 dX12_ahead_281 rfl ?_
          cases hf
          exact wa_iret C dX12_ahead_298 rfl rfl
      · replace hf := ite_t hf c13
        refine wa_iload_n C 2 271 dX12_ahead_270 rfl rfl ?_
        refine wa_goto C 298 dX12_ahead_271 rfl ?_
        cases hf
        exact wa_iret C dX12_ahead_298 rfl rfl
    · replace hf := ite_f hf c12
      refine wa_aload_n C 0 227 dX12_ahead_226 rfl rfl ?_
      refine wa_get C 230 0 0 34 dX12_ahead_227 rfl iX12 q1483 rfl (Nat.le_of_ble_eq_true rfl) rfl rfl rfl ?_
      refine wa_sipush (v := 148) C 233 dX12_ahead_230 rfl rfl ?_
      refine wa_iload C 5 235 dX12_ahead_233 rfl rfl ?_
      refine wa_iadd C 236 dX12_ahead_235 rfl ?_
      obtain ⟨g17, hf⟩ := grd_ex hf
      refine wa_iald C 237 0 10 dX12_ahead_236 rfl rfl rfl (vi_in g17) ?_
      refine wa_iload C 4 239 dX12_ahead_237 rfl rfl ?_
      refine wa_icmp_le C 256 242 dX12_ahead_239 rfl rfl (fun c18 => ?_) (fun c18 => ?_)
      · replace hf := ite_t hf c18
        refine wa_iload C 4 258 dX12_ahead_256 rfl rfl ?_
        refine wa_istore (lv' := [(0, .ref (a 0)), (2, .int l2), (3, .int l3), (4, .int l4), (5, .int l5), (6, .int l6)]) C [1, 2, 3, 4, 0, 5] 260 dX12_ahead_258 rfl (Nat.le_of_ble_eq_true rfl) rfl ?_
        obtain ⟨x19, ex19, hf⟩ := bnd_ex hf
        refine wa_iinc (v := x19) (lv' := [(0, .ref (a 0)), (2, .int l2), (3, .int l3), (4, .int l4), (5, .int l5), (6, .int x19)]) C 5 [1, 2, 3, 4, 5, 0] 263 dX12_ahead_260 rfl rfl (by rw [ex19]; rfl) (Nat.le_of_ble_eq_true rfl) rfl ?_
        refine wa_goto C 214 dX12_ahead_263 rfl ?_
        exact ih l5 x19 hf
      · replace hf := ite_f hf c18
        refine wa_aload_n C 0 243 dX12_ahead_242 rfl rfl ?_
        refine wa_get C 246 0 0 34 dX12_ahead_243 rfl iX12 q1483 rfl (Nat.le_of_ble_eq_true rfl) rfl rfl rfl ?_
        refine wa_sipush (v := 148) C 249 dX12_ahead_246 rfl rfl ?_
        refine wa_iload C 5 251 dX12_ahead_249 rfl rfl ?_
        refine wa_iadd C 252 dX12_ahead_251 rfl ?_
        obtain ⟨g20, hf⟩ := grd_ex hf
        refine wa_iald C 253 0 10 dX12_ahead_252 rfl rfl rfl (vi_in g20) ?_
        refine wa_goto C 258 dX12_ahead_253 rfl ?_
        obtain ⟨x21, ex21, hf⟩ := bnd_ex hf
        refine wa_topi ex21 ?_
        refine wa_istore (lv' := [(0, .ref (a 0)), (2, .int l2), (3, .int l3), (4, .int l4), (5, .int x21), (6, .int l6)]) C [1, 2, 3, 4, 0, 5] 260 dX12_ahead_258 rfl (Nat.le_of_ble_eq_true rfl) rfl ?_
        obtain ⟨x22, ex22, hf⟩ := bnd_ex hf
        refine wa_iinc (v := x22) (lv' := [(0, .ref (a 0)), (2, .int l2), (3, .int l3), (4, .int l4), (5, .int x21), (6, .int x22)]) C 5 [1, 2, 3, 4, 5, 0] 263 dX12_ahead_260 rfl rfl (by rw [ex22]; rfl) (Nat.le_of_ble_eq_true rfl) rfl ?_
        refine wa_goto C 214 dX12_ahead_263 rfl ?_
        exact ih x21 x22 hf
set_option maxRecDepth 20000 in
theorem w_X12_ahead_J172 {p : Program} {l : Launch} {e : Env} {s : State} {m : MethodId} {args : Array Value} {below : List Frame} {meth : Method} {c : Code} {D : va_G} {A : Nat → Prop} {dT : Nat → ClassId} {a : Nat → Nat} {res : Int32 × MS} {l2 : Int32} {l5 : Int32} {z0 : MS} (C : Cx p s m args meth c cX12_ahead 7 RX12 (some .int) D A dT) {k135 : Int32 → Int32 → Int32 → Option (Int32 × MS)} (hk135 : ∀ (l3 : Int32) (l4 : Int32) (l6 : Int32), k135 l3 l4 l6 = some res → WA p l e ({ frames := 5, cells := 0, slots := 0, locals := 120 } : Room) s m args below meth c (MQ below (QI D dT A ([wM dT a res.2]) res.1) args s 0 0 A) D A 0 0 7 135 ([wM dT a z0]) [(0, .ref (a 0)), (2, .int l2), (3, .int l3), (4, .int l4), (5, .int l5), (6, .int l6)] []) : ∀ (l3 : Int32) (l4 : Int32) (l6 : Int32), f_X12_ahead_J172 k135 l2 l5 z0 l3 l4 l6 = some res → WA p l e ({ frames := 5, cells := 0, slots := 0, locals := 120 } : Room) s m args below meth c (MQ below (QI D dT A ([wM dT a res.2]) res.1) args s 0 0 A) D A 0 0 7 172 ([wM dT a z0]) [(0, .ref (a 0)), (2, .int l2), (3, .int l3), (4, .int l4), (5, .int l5), (6, .int l6)] [] := by
  intro l3 l4 l6 hf
  unfold f_X12_ahead_J172 at hf
  refine wa_iload C 3 174 dX12_ahead_172 rfl rfl ?_
  refine wa_iconst (v := (-1)) C 175 dX12_ahead_174 rfl rfl ?_
  refine wa_icmp_eq C 201 178 dX12_ahead_175 rfl rfl (fun c27 => ?_) (fun c27 => ?_)
  · replace hf := ite_t hf c27
    refine wa_iload C 5 203 dX12_ahead_201 rfl rfl ?_
    refine wa_istore (lv' := [(0, .ref (a 0)), (2, .int l2), (3, .int l3), (4, .int l6), (5, .int l5), (6, .int l6)]) C [1, 2, 3, 0, 4, 5] 205 dX12_ahead_203 rfl (Nat.le_of_ble_eq_true rfl) rfl ?_
    obtain ⟨x28, ex28, hf⟩ := bnd_ex hf
    refine wa_iinc (v := x28) (lv' := [(0, .ref (a 0)), (2, .int l2), (3, .int l3), (4, .int l6), (5, .int l5), (6, .int x28)]) C 5 [1, 2, 3, 4, 5, 0] 208 dX12_ahead_205 rfl rfl (by rw [ex28]; rfl) (Nat.le_of_ble_eq_true rfl) rfl ?_
    refine wa_goto C 135 dX12_ahead_208 rfl ?_
    exact hk135 l3 l6 x28 hf
  · replace hf := ite_f hf c27
    refine wa_aload_n C 0 179 dX12_ahead_178 rfl rfl ?_
    refine wa_get C 182 0 0 34 dX12_ahead_179 rfl iX12 q1483 rfl (Nat.le_of_ble_eq_true rfl) rfl rfl rfl ?_
    refine wa_bipush (v := 112) C 184 dX12_ahead_182 rfl rfl ?_
    refine wa_iload C 5 186 dX12_ahead_184 rfl rfl ?_
    refine wa_iadd C 187 dX12_ahead_186 rfl ?_
    obtain ⟨g29, hf⟩ := grd_ex hf
    refine wa_iald C 188 0 10 dX12_ahead_187 rfl rfl rfl (vi_in g29) ?_
    refine wa_aload_n C 0 189 dX12_ahead_188 rfl rfl ?_
    refine wa_get C 192 0 0 34 dX12_ahead_189 rfl iX12 q1483 rfl (Nat.le_of_ble_eq_true rfl) rfl rfl rfl ?_
    refine wa_bipush (v := 112) C 194 dX12_ahead_192 rfl rfl ?_
    refine wa_iload C 3 196 dX12_ahead_194 rfl rfl ?_
    refine wa_iadd C 197 dX12_ahead_196 rfl ?_
    obtain ⟨g30, hf⟩ := grd_ex hf
    refine wa_iald C 198 0 10 dX12_ahead_197 rfl rfl rfl (vi_in g30) ?_
    refine wa_icmp_le C 205 201 dX12_ahead_198 rfl rfl (fun c31 => ?_) (fun c31 => ?_)
    · replace hf := ite_t hf c31
      obtain ⟨x32, ex32, hf⟩ := bnd_ex hf
      refine wa_iinc (v := x32) (lv' := [(0, .ref (a 0)), (2, .int l2), (3, .int l3), (4, .int l4), (5, .int l5), (6, .int x32)]) C 5 [1, 2, 3, 4, 5, 0] 208 dX12_ahead_205 rfl rfl (by rw [ex32]; rfl) (Nat.le_of_ble_eq_true rfl) rfl ?_
      refine wa_goto C 135 dX12_ahead_208 rfl ?_
      exact hk135 l3 l4 x32 hf
    · replace hf := ite_f hf c31
      refine wa_iload C 5 203 dX12_ahead_201 rfl rfl ?_
      refine wa_istore (lv' := [(0, .ref (a 0)), (2, .int l2), (3, .int l3), (4, .int l6), (5, .int l5), (6, .int l6)]) C [1, 2, 3, 0, 4, 5] 205 dX12_ahead_203 rfl (Nat.le_of_ble_eq_true rfl) rfl ?_
      obtain ⟨x33, ex33, hf⟩ := bnd_ex hf
      refine wa_iinc (v := x33) (lv' := [(0, .ref (a 0)), (2, .int l2), (3, .int l3), (4, .int l6), (5, .int l5), (6, .int x33)]) C 5 [1, 2, 3, 4, 5, 0] 208 dX12_ahead_205 rfl rfl (by rw [ex33]; rfl) (Nat.le_of_ble_eq_true rfl) rfl ?_
      refine wa_goto C 135 dX12_ahead_208 rfl ?_
      exact hk135 l3 l6 x33 hf
set_option maxRecDepth 20000 in
theorem w_X12_ahead_J166 {p : Program} {l : Launch} {e : Env} {s : State} {m : MethodId} {args : Array Value} {below : List Frame} {meth : Method} {c : Code} {D : va_G} {A : Nat → Prop} {dT : Nat → ClassId} {a : Nat → Nat} {res : Int32 × MS} {l2 : Int32} {l5 : Int32} {z0 : MS} (C : Cx p s m args meth c cX12_ahead 7 RX12 (some .int) D A dT) {k135 : Int32 → Int32 → Int32 → Option (Int32 × MS)} (hk135 : ∀ (l3 : Int32) (l4 : Int32) (l6 : Int32), k135 l3 l4 l6 = some res → WA p l e ({ frames := 5, cells := 0, slots := 0, locals := 120 } : Room) s m args below meth c (MQ below (QI D dT A ([wM dT a res.2]) res.1) args s 0 0 A) D A 0 0 7 135 ([wM dT a z0]) [(0, .ref (a 0)), (2, .int l2), (3, .int l3), (4, .int l4), (5, .int l5), (6, .int l6)] []) : ∀ (l3 : Int32) (l4 : Int32) (l6 : Int32) (t0 : Int32) (t1 : Int32), f_X12_ahead_J166 k135 l2 l5 z0 l3 l4 l6 t0 t1 = some res → WA p l e ({ frames := 5, cells := 0, slots := 0, locals := 120 } : Room) s m args below meth c (MQ below (QI D dT A ([wM dT a res.2]) res.1) args s 0 0 A) D A 0 0 7 166 ([wM dT a z0]) [(0, .ref (a 0)), (2, .int l2), (3, .int l3), (4, .int l4), (5, .int l5), (6, .int l6)] [.int t0, .int t1] := by
  intro l3 l4 l6 t0 t1 hf
  unfold f_X12_ahead_J166 at hf
  refine wa_icmp_le C 172 169 dX12_ahead_166 rfl rfl (fun c26 => ?_) (fun c26 => ?_)
  · replace hf := ite_t hf c26
    exact w_X12_ahead_J172 C hk135 l3 l4 l6 hf
  · replace hf := ite_f hf c26
    refine wa_iload C 5 171 dX12_ahead_169 rfl rfl ?_
    refine wa_istore_n (lv' := [(0, .ref (a 0)), (2, .int l2), (3, .int l6), (4, .int l4), (5, .int l5), (6, .int l6)]) C [1, 2, 0, 3, 4, 5] 172 dX12_ahead_171 rfl (Nat.le_of_ble_eq_true rfl) rfl ?_
    exact w_X12_ahead_J172 C hk135 l6 l4 l6 hf
set_option maxRecDepth 20000 in
theorem w_X12_ahead_L135 {p : Program} {l : Launch} {e : Env} {s : State} {m : MethodId} {args : Array Value} {below : List Frame} {meth : Method} {c : Code} {D : va_G} {A : Nat → Prop} {dT : Nat → ClassId} {a : Nat → Nat} {res : Int32 × MS} {l2 : Int32} {l5 : Int32} {z0 : MS} (C : Cx p s m args meth c cX12_ahead 7 RX12 (some .int) D A dT) : ∀ (n : Nat) (l3 : Int32) (l4 : Int32) (l6 : Int32), f_X12_ahead_L135 l2 l5 z0 n l3 l4 l6 = some res → WA p l e ({ frames := 5, cells := 0, slots := 0, locals := 120 } : Room) s m args below meth c (MQ below (QI D dT A ([wM dT a res.2]) res.1) args s 0 0 A) D A 0 0 7 135 ([wM dT a z0]) [(0, .ref (a 0)), (2, .int l2), (3, .int l3), (4, .int l4), (5, .int l5), (6, .int l6)] [] := by
  intro n
  induction n with
  | zero => intro l3 l4 l6 hf; cases hf
  | succ n ih =>
    intro l3 l4 l6 hf
    unfold f_X12_ahead_L135 at hf
    refine wa_iload C 5 137 dX12_ahead_135 rfl rfl ?_
    refine wa_aload_n C 0 138 dX12_ahead_137 rfl rfl ?_
    refine wa_get C 141 0 0 1 dX12_ahead_138 rfl iX12 q1450 rfl (Nat.le_of_ble_eq_true rfl) rfl rfl rfl ?_
    refine wa_icmp_ge C 211 144 dX12_ahead_141 rfl rfl (fun c10 => ?_) (fun c10 => ?_)
    · replace hf := ite_t hf c10
      refine wa_iconst (v := 0) C 212 dX12_ahead_211 rfl rfl ?_
      refine wa_istore (lv' := [(0, .ref (a 0)), (2, .int l2), (3, .int l3), (4, .int l4), (5, .int l5), (6, .int (0 : Int32))]) C [1, 2, 3, 4, 5, 0] 214 dX12_ahead_212 rfl (Nat.le_of_ble_eq_true rfl) rfl ?_
      exact w_X12_ahead_L214 C FUEL l5 (0 : Int32) hf
    · replace hf := ite_f hf c10
      refine wa_aload_n C 0 145 dX12_ahead_144 rfl rfl ?_
      refine wa_get C 148 0 0 46 dX12_ahead_145 rfl iX12 q1495 rfl (Nat.le_of_ble_eq_true rfl) rfl rfl rfl ?_
      refine wa_iload C 5 150 dX12_ahead_148 rfl rfl ?_
      obtain ⟨g23, hf⟩ := grd_ex hf
      refine wa_iald C 151 0 18 dX12_ahead_150 rfl rfl rfl (vi_in g23) ?_
      refine wa_iload_n C 2 152 dX12_ahead_151 rfl rfl ?_
      refine wa_iconst (v := (-1)) C 153 dX12_ahead_152 rfl rfl ?_
      refine wa_icmp_ne C 160 156 dX12_ahead_153 rfl rfl (fun c24 => ?_) (fun c24 => ?_)
      · replace hf := ite_f hf c24
        refine wa_aload_n C 0 161 dX12_ahead_160 rfl rfl ?_
        refine wa_get C 164 0 0 46 dX12_ahead_161 rfl iX12 q1495 rfl (Nat.le_of_ble_eq_true rfl) rfl rfl rfl ?_
        refine wa_iload_n C 2 165 dX12_ahead_164 rfl rfl ?_
        obtain ⟨g25, hf⟩ := grd_ex hf
        refine wa_iald C 166 0 18 dX12_ahead_165 rfl rfl rfl (vi_in g25) ?_
        exact w_X12_ahead_J166 C ih l3 l4 l6 (z0.2.2 18 (l3).toNatClampNeg) (z0.2.2 18 (l6).toNatClampNeg) hf
      · replace hf := ite_t hf c24
        refine wa_iconst (v := 0) C 157 dX12_ahead_156 rfl rfl ?_
        refine wa_goto C 166 dX12_ahead_157 rfl ?_
        exact w_X12_ahead_J166 C ih l3 l4 l6 (0 : Int32) (z0.2.2 18 (l6).toNatClampNeg) hf
set_option maxRecDepth 20000 in
theorem w_X12_ahead_L84 {p : Program} {l : Launch} {e : Env} {s : State} {m : MethodId} {args : Array Value} {below : List Frame} {meth : Method} {c : Code} {D : va_G} {A : Nat → Prop} {dT : Nat → ClassId} {a : Nat → Nat} {res : Int32 × MS} {l1 : Int32} {l2 : Int32} {l3 : Int32} (C : Cx p s m args meth c cX12_ahead 7 RX12 (some .int) D A dT) {k66 : Int32 → MS → Option (Int32 × MS)} (hk66 : ∀ (l3 : Int32) (z0 : MS), k66 l3 z0 = some res → WA p l e ({ frames := 5, cells := 0, slots := 0, locals := 120 } : Room) s m args below meth c (MQ below (QI D dT A ([wM dT a res.2]) res.1) args s 0 0 A) D A 0 0 7 66 ([wM dT a z0]) [(0, .ref (a 0)), (1, .int l1), (2, .int l2), (3, .int l3)] []) : ∀ (n : Nat) (l4 : Int32) (z0 : MS), f_X12_ahead_L84 k66 l1 l2 l3 n l4 z0 = some res → WA p l e ({ frames := 5, cells := 0, slots := 0, locals := 120 } : Room) s m args below meth c (MQ below (QI D dT A ([wM dT a res.2]) res.1) args s 0 0 A) D A 0 0 7 84 ([wM dT a z0]) [(0, .ref (a 0)), (1, .int l1), (2, .int l2), (3, .int l3), (4, .int l4)] [] := by
  intro n
  induction n with
  | zero => intro l4 z0 hf; cases hf
  | succ n ih =>
    intro l4 z0 hf
    unfold f_X12_ahead_L84 at hf
    refine wa_iload C 4 86 dX12_ahead_84 rfl rfl ?_
    refine wa_aload_n C 0 87 dX12_ahead_86 rfl rfl ?_
    refine wa_get C 90 0 0 1 dX12_ahead_87 rfl iX12 q1450 rfl (Nat.le_of_ble_eq_true rfl) rfl rfl rfl ?_
    refine wa_icmp_ge C 118 93 dX12_ahead_90 rfl rfl (fun c36 => ?_) (fun c36 => ?_)
    · replace hf := ite_t hf c36
      obtain ⟨x37, ex37, hf⟩ := bnd_ex hf
      refine wa_iinc (v := x37) (lv' := [(0, .ref (a 0)), (1, .int l1), (2, .int l2), (3, .int x37), (4, .int l4)]) C 3 [1, 2, 3, 0, 4] 121 dX12_ahead_118 rfl rfl (by rw [ex37]; rfl) (Nat.le_of_ble_eq_true rfl) rfl ?_
      refine wa_goto C 66 dX12_ahead_121 rfl ?_
      refine wa_lv (lv' := [(0, .ref (a 0)), (1, .int l1), (2, .int l2), (3, .int x37)]) [0, 1, 2, 3] rfl ?_
      exact hk66 x37 z0 hf
    · replace hf := ite_f hf c36
      refine wa_aload_n C 0 94 dX12_ahead_93 rfl rfl ?_
      refine wa_get C 97 0 0 46 dX12_ahead_94 rfl iX12 q1495 rfl (Nat.le_of_ble_eq_true rfl) rfl rfl rfl ?_
      refine wa_iload C 4 99 dX12_ahead_97 rfl rfl ?_
      refine wa_dup2 C 100 dX12_ahead_99 rfl rfl rfl ?_
      obtain ⟨g38, hf⟩ := grd_ex hf
      refine wa_iald C 101 0 18 dX12_ahead_100 rfl rfl rfl (vi_in g38) ?_
      refine wa_aload_n C 0 102 dX12_ahead_101 rfl rfl ?_
      refine wa_get C 105 0 0 41 dX12_ahead_102 rfl iX12 q1490 rfl (Nat.le_of_ble_eq_true rfl) rfl rfl rfl ?_
      refine wa_iload C 4 107 dX12_ahead_105 rfl rfl ?_
      refine wa_ishr C 108 dX12_ahead_107 rfl ?_
      refine wa_iconst (v := 1) C 109 dX12_ahead_108 rfl rfl ?_
      refine wa_iand C 110 dX12_ahead_109 rfl ?_
      refine wa_iadd C 111 dX12_ahead_110 rfl ?_
      obtain ⟨g39, hf⟩ := grd_ex hf
      obtain ⟨y40, ey40, hf⟩ := bnd_ex hf
      refine wa_iast (ws' := [wM dT a y40]) C 112 0 18 dX12_ahead_111 rfl rfl rfl (vi_in g39) (by rw [ey40]; rfl) ?_
      obtain ⟨x41, ex41, hf⟩ := bnd_ex hf
      refine wa_iinc (v := x41) (lv' := [(0, .ref (a 0)), (1, .int l1), (2, .int l2), (3, .int l3), (4, .int x41)]) C 4 [1, 2, 3, 4, 0] 115 dX12_ahead_112 rfl rfl (by rw [ex41]; rfl) (Nat.le_of_ble_eq_true rfl) rfl ?_
      refine wa_goto C 84 dX12_ahead_115 rfl ?_
      exact ih x41 y40 hf
set_option maxRecDepth 20000 in
theorem w_X12_ahead_L66 {p : Program} {l : Launch} {e : Env} {s : State} {m : MethodId} {args : Array Value} {below : List Frame} {meth : Method} {c : Code} {D : va_G} {A : Nat → Prop} {dT : Nat → ClassId} {a : Nat → Nat} {res : Int32 × MS} {l1 : Int32} {l2 : Int32} (C : Cx p s m args meth c cX12_ahead 7 RX12 (some .int) D A dT) : ∀ (n : Nat) (l3 : Int32) (z0 : MS), f_X12_ahead_L66 l1 l2 n l3 z0 = some res → WA p l e ({ frames := 5, cells := 0, slots := 0, locals := 120 } : Room) s m args below meth c (MQ below (QI D dT A ([wM dT a res.2]) res.1) args s 0 0 A) D A 0 0 7 66 ([wM dT a z0]) [(0, .ref (a 0)), (1, .int l1), (2, .int l2), (3, .int l3)] [] := by
  intro n
  induction n with
  | zero => intro l3 z0 hf; cases hf
  | succ n ih =>
    intro l3 z0 hf
    unfold f_X12_ahead_L66 at hf
    refine wa_iload_n C 3 67 dX12_ahead_66 rfl rfl ?_
    refine wa_iload_n C 1 68 dX12_ahead_67 rfl rfl ?_
    refine wa_icmp_ge C 124 71 dX12_ahead_68 rfl rfl (fun c9 => ?_) (fun c9 => ?_)
    · replace hf := ite_t hf c9
      refine wa_iconst (v := (-1)) C 125 dX12_ahead_124 rfl rfl ?_
      refine wa_istore_n (lv' := [(0, .ref (a 0)), (1, .int l1), (2, .int l2), (3, .int (-1 : Int32))]) C [1, 2, 3, 0] 126 dX12_ahead_125 rfl (Nat.le_of_ble_eq_true rfl) rfl ?_
      refine wa_iconst (v := (-1)) C 127 dX12_ahead_126 rfl rfl ?_
      refine wa_istore (lv' := [(0, .ref (a 0)), (1, .int l1), (2, .int l2), (3, .int (-1 : Int32)), (4, .int (-1 : Int32))]) C [1, 2, 3, 4, 0] 129 dX12_ahead_127 rfl (Nat.le_of_ble_eq_true rfl) rfl ?_
      refine wa_iconst (v := (-1)) C 130 dX12_ahead_129 rfl rfl ?_
      refine wa_istore (lv' := [(0, .ref (a 0)), (1, .int l1), (2, .int l2), (3, .int (-1 : Int32)), (4, .int (-1 : Int32)), (5, .int (-1 : Int32))]) C [1, 2, 3, 4, 5, 0] 132 dX12_ahead_130 rfl (Nat.le_of_ble_eq_true rfl) rfl ?_
      refine wa_iconst (v := 0) C 133 dX12_ahead_132 rfl rfl ?_
      refine wa_istore (lv' := [(0, .ref (a 0)), (1, .int l1), (2, .int l2), (3, .int (-1 : Int32)), (4, .int (-1 : Int32)), (5, .int (-1 : Int32)), (6, .int (0 : Int32))]) C [1, 2, 3, 4, 5, 6, 0] 135 dX12_ahead_133 rfl (Nat.le_of_ble_eq_true rfl) rfl ?_
      refine wa_lv (lv' := [(0, .ref (a 0)), (2, .int l2), (3, .int (-1 : Int32)), (4, .int (-1 : Int32)), (5, .int (-1 : Int32)), (6, .int (0 : Int32))]) [0, 2, 3, 4, 5, 6] rfl ?_
      exact w_X12_ahead_L135 C FUEL (-1 : Int32) (-1 : Int32) (0 : Int32) hf
    · replace hf := ite_f hf c9
      refine wa_aload_n C 0 72 dX12_ahead_71 rfl rfl ?_
      refine wa_bipush (v := 86) C 74 dX12_ahead_72 rfl rfl ?_
      obtain ⟨q34, hq34, hf⟩ := bind_ex hf
      refine wa_callVAv (b1 := 0) (q1 := 0) (ci := 12) (As := [.int (86 : Int32)]) C 77 dX12_ahead_74 rfl kv_X12_334 (c_X12_eveningGoes hq34) ⟨rfl, rfl⟩ ⟨Nat.le_of_ble_eq_true rfl, Nat.le_of_ble_eq_true rfl⟩ rfl rfl rfl rfl rfl ⟨Nat.zero_le _, Nat.zero_le _⟩ (Nat.le_of_ble_eq_true rfl) ?_
      refine wa_aload_n C 0 78 dX12_ahead_77 rfl rfl ?_
      obtain ⟨q35, hq35, hf⟩ := bind_ex hf
      refine wa_callVAv (b1 := 0) (q1 := 0) (ci := 12) (As := []) C 81 dX12_ahead_78 rfl kv_X12_418 (c_X12_knows hq35) ⟨rfl, rfl⟩ ⟨Nat.le_of_ble_eq_true rfl, Nat.le_of_ble_eq_true rfl⟩ rfl rfl rfl rfl rfl ⟨Nat.zero_le _, Nat.zero_le _⟩ (Nat.le_of_ble_eq_true rfl) ?_
      refine wa_iconst (v := 0) C 82 dX12_ahead_81 rfl rfl ?_
      refine wa_istore (lv' := [(0, .ref (a 0)), (1, .int l1), (2, .int l2), (3, .int l3), (4, .int (0 : Int32))]) C [1, 2, 3, 4, 0] 84 dX12_ahead_82 rfl (Nat.le_of_ble_eq_true rfl) rfl ?_
      exact w_X12_ahead_L84 C ih FUEL (0 : Int32) q35 hf
set_option maxRecDepth 20000 in
theorem w_X12_ahead_L32 {p : Program} {l : Launch} {e : Env} {s : State} {m : MethodId} {args : Array Value} {below : List Frame} {meth : Method} {c : Code} {D : va_G} {A : Nat → Prop} {dT : Nat → ClassId} {a : Nat → Nat} {res : Int32 × MS} {l1 : Int32} {l2 : Int32} (C : Cx p s m args meth c cX12_ahead 7 RX12 (some .int) D A dT) : ∀ (n : Nat) (l3 : Int32) (z0 : MS), f_X12_ahead_L32 l1 l2 n l3 z0 = some res → WA p l e ({ frames := 5, cells := 0, slots := 0, locals := 120 } : Room) s m args below meth c (MQ below (QI D dT A ([wM dT a res.2]) res.1) args s 0 0 A) D A 0 0 7 32 ([wM dT a z0]) [(0, .ref (a 0)), (1, .int l1), (2, .int l2), (3, .int l3)] [] := by
  intro n
  induction n with
  | zero => intro l3 z0 hf; cases hf
  | succ n ih =>
    intro l3 z0 hf
    unfold f_X12_ahead_L32 at hf
    refine wa_iload_n C 3 33 dX12_ahead_32 rfl rfl ?_
    refine wa_aload_n C 0 34 dX12_ahead_33 rfl rfl ?_
    refine wa_get C 37 0 0 1 dX12_ahead_34 rfl iX12 q1450 rfl (Nat.le_of_ble_eq_true rfl) rfl rfl rfl ?_
    refine wa_icmp_ge C 60 40 dX12_ahead_37 rfl rfl (fun c7 => ?_) (fun c7 => ?_)
    · replace hf := ite_t hf c7
      refine wa_aload_n C 0 61 dX12_ahead_60 rfl rfl ?_
      obtain ⟨q8, hq8, hf⟩ := bind_ex hf
      refine wa_callVAv (b1 := 0) (q1 := 0) (ci := 12) (As := []) C 64 dX12_ahead_61 rfl kv_X12_418 (c_X12_knows hq8) ⟨rfl, rfl⟩ ⟨Nat.le_of_ble_eq_true rfl, Nat.le_of_ble_eq_true rfl⟩ rfl rfl rfl rfl rfl ⟨Nat.zero_le _, Nat.zero_le _⟩ (Nat.le_of_ble_eq_true rfl) ?_
      refine wa_iconst (v := 0) C 65 dX12_ahead_64 rfl rfl ?_
      refine wa_istore_n (lv' := [(0, .ref (a 0)), (1, .int l1), (2, .int l2), (3, .int (0 : Int32))]) C [1, 2, 3, 0] 66 dX12_ahead_65 rfl (Nat.le_of_ble_eq_true rfl) rfl ?_
      exact w_X12_ahead_L66 C FUEL (0 : Int32) q8 hf
    · replace hf := ite_f hf c7
      refine wa_aload_n C 0 41 dX12_ahead_40 rfl rfl ?_
      refine wa_get C 44 0 0 46 dX12_ahead_41 rfl iX12 q1495 rfl (Nat.le_of_ble_eq_true rfl) rfl rfl rfl ?_
      refine wa_iload_n C 3 45 dX12_ahead_44 rfl rfl ?_
      refine wa_iconst (v := 0) C 46 dX12_ahead_45 rfl rfl ?_
      obtain ⟨g42, hf⟩ := grd_ex hf
      obtain ⟨y43, ey43, hf⟩ := bnd_ex hf
      refine wa_iast (ws' := [wM dT a y43]) C 47 0 18 dX12_ahead_46 rfl rfl rfl (vi_in g42) (by rw [ey43]; rfl) ?_
      refine wa_aload_n C 0 48 dX12_ahead_47 rfl rfl ?_
      refine wa_get C 51 0 0 45 dX12_ahead_48 rfl iX12 q1494 rfl (Nat.le_of_ble_eq_true rfl) rfl rfl rfl ?_
      refine wa_iload_n C 3 52 dX12_ahead_51 rfl rfl ?_
      refine wa_iconst (v := 0) C 53 dX12_ahead_52 rfl rfl ?_
      obtain ⟨g44, hf⟩ := grd_ex hf
      obtain ⟨y45, ey45, hf⟩ := bnd_ex hf
      refine wa_iast (ws' := [wM dT a y45]) C 54 0 17 dX12_ahead_53 rfl rfl rfl (vi_in g44) (by rw [ey45]; rfl) ?_
      obtain ⟨x46, ex46, hf⟩ := bnd_ex hf
      refine wa_iinc (v := x46) (lv' := [(0, .ref (a 0)), (1, .int l1), (2, .int l2), (3, .int x46)]) C 3 [1, 2, 3, 0] 57 dX12_ahead_54 rfl rfl (by rw [ex46]; rfl) (Nat.le_of_ble_eq_true rfl) rfl ?_
      refine wa_goto C 32 dX12_ahead_57 rfl ?_
      exact ih x46 y45 hf
set_option maxRecDepth 20000 in
theorem c_X12_ahead {l : Launch} {D : va_G} {dT : Nat → ClassId} {a : Nat → Nat} {v : MS} {p0 : Int32} {p1 : Int32} {res : Int32 × MS} (hf : f_X12_ahead v p0 p1 = some res) : CTi l yX12_ahead cX12_ahead 7 (some .int) ({ frames := 5, cells := 0, slots := 0, locals := 120 } : Room) D dT [.ref (a 0), .int p0, .int p1] ([wM dT a v]) ([wM dT a res.2]) res.1 := by
  refine CTi.of (by decide) (Nat.le_of_ble_eq_true rfl) rfl ?_
  intro p e s m args below meth c A C
  unfold f_X12_ahead at hf
  refine wa_aload_n C 0 1 dX12_ahead_0 rfl rfl ?_
  refine wa_iconst (v := 0) C 2 dX12_ahead_1 rfl rfl ?_
  obtain ⟨y1, ey1, hf⟩ := bnd_ex hf
  refine wa_put (ws' := [wM dT a y1]) C 5 0 0 0 tyX12 dX12_ahead_2 rfl iX12 tyX12_ok nmX12 q1449 rfl (Nat.le_of_ble_eq_true rfl) rfl rfl rfl rfl rfl (Nat.le_of_ble_eq_true rfl) (by rw [ey1]; rfl) ?_
  refine wa_aload_n C 0 6 dX12_ahead_5 rfl rfl ?_
  refine wa_iload_n C 2 7 dX12_ahead_6 rfl rfl ?_
  refine wa_iconst (v := 3) C 8 dX12_ahead_7 rfl rfl ?_
  obtain ⟨q2, hq2, hf⟩ := bind_ex hf
  refine wa_callVAi (b1 := 0) (q1 := 0) (ci := 12) (As := [.int p1, .int (3 : Int32)]) C 11 dX12_ahead_8 rfl kv_X12_371 (c_X12_isWhat hq2) ⟨rfl, rfl⟩ ⟨Nat.le_of_ble_eq_true rfl, Nat.le_of_ble_eq_true rfl⟩ rfl rfl rfl rfl rfl ⟨Nat.zero_le _, Nat.zero_le _⟩ (Nat.le_of_ble_eq_true rfl) ?_
  refine wa_if_eq C 24 14 dX12_ahead_11 rfl rfl (fun c3 => ?_) (fun c3 => ?_)
  · replace hf := ite_t hf c3
    refine wa_iconst (v := 0) C 25 dX12_ahead_24 rfl rfl ?_
    cases hf
    exact wa_iret C dX12_ahead_25 rfl rfl
  · replace hf := ite_f hf c3
    refine wa_aload_n C 0 15 dX12_ahead_14 rfl rfl ?_
    refine wa_iload_n C 1 16 dX12_ahead_15 rfl rfl ?_
    refine wa_iconst (v := 0) C 17 dX12_ahead_16 rfl rfl ?_
    refine wa_iconst (v := 2) C 18 dX12_ahead_17 rfl rfl ?_
    obtain ⟨q4, hq4, hf⟩ := bind_ex hf
    refine wa_callVAi (b1 := 0) (q1 := 0) (ci := 12) (As := [.int p0, .int (0 : Int32), .int (2 : Int32)]) C 21 dX12_ahead_18 rfl kv_X12_402 (c_X12_isSoon hq4) ⟨rfl, rfl⟩ ⟨Nat.le_of_ble_eq_true rfl, Nat.le_of_ble_eq_true rfl⟩ rfl rfl rfl rfl rfl ⟨Nat.zero_le _, Nat.zero_le _⟩ (Nat.le_of_ble_eq_true rfl) ?_
    refine wa_if_ne C 26 24 dX12_ahead_21 rfl rfl (fun c5 => ?_) (fun c5 => ?_)
    · replace hf := ite_f hf c5
      refine wa_aload_n C 0 27 dX12_ahead_26 rfl rfl ?_
      obtain ⟨q6, hq6, hf⟩ := bind_ex hf
      refine wa_callVAv (b1 := 0) (q1 := 0) (ci := 12) (As := []) C 30 dX12_ahead_27 rfl kv_X12_337 (c_X12_tries hq6) ⟨rfl, rfl⟩ ⟨Nat.le_of_ble_eq_true rfl, Nat.le_of_ble_eq_true rfl⟩ rfl rfl rfl rfl rfl ⟨Nat.zero_le _, Nat.zero_le _⟩ (Nat.le_of_ble_eq_true rfl) ?_
      refine wa_iconst (v := 0) C 31 dX12_ahead_30 rfl rfl ?_
      refine wa_istore_n (lv' := [(0, .ref (a 0)), (1, .int p0), (2, .int p1), (3, .int (0 : Int32))]) C [1, 2, 3, 0] 32 dX12_ahead_31 rfl (Nat.le_of_ble_eq_true rfl) rfl ?_
      exact w_X12_ahead_L32 C FUEL (0 : Int32) q6 hf
    · replace hf := ite_t hf c5
      refine wa_iconst (v := 0) C 25 dX12_ahead_24 rfl rfl ?_
      cases hf
      exact wa_iret C dX12_ahead_25 rfl rfl
def f_X12_toMeet_L66 (k54 : Int32 → Int32 → Int32 → MS → Option (Int32 × MS)) (l1 : Int32) (l2 : Int32) (l5 : Int32) : Nat → Int32 → Int32 → Int32 → MS → Option (Int32 × MS)
  | 0, _, _, _, _ => none
  | n + 1, l3, l4, l6, z0 => grd (vi (1 : Int32) 172) ((if (z0.2.2 10 ((1 : Int32)).toNatClampNeg) ≤ l6 then bnd (l5 + 1) (fun x13 => k54 l3 l4 x13 z0) else grd (vi ((2 : Int32) + l5) 172) ((if (z0.2.2 10 (((2 : Int32) + l5)).toNatClampNeg) = l6 then bnd (l6 + 1) (fun x26 => f_X12_toMeet_L66 k54 l1 l2 l5 n l3 l4 x26 z0) else (f_X12_tries z0).bind (fun q16 => (f_X12_moves q16 (86 : Int32) l5 l6).bind (fun q17 => (f_X12_areIn q17 l1 l2).bind (fun q18 => (if q18 = 0 then (f_X12_whenIn q17 l1 l2 (1 : Int32) (60 : Int32)).bind (fun q20 => (if q20.1 < l3 then bnd (((100 : Int32) * l5) + l6) (fun x22 => bnd (l6 + 1) (fun x23 => f_X12_toMeet_L66 k54 l1 l2 l5 n q20.1 x22 x23 q20.2)) else bnd (l6 + 1) (fun x24 => f_X12_toMeet_L66 k54 l1 l2 l5 n l3 l4 x24 q20.2))) else bnd (l6 + 1) (fun x25 => f_X12_toMeet_L66 k54 l1 l2 l5 n l3 l4 x25 q17)))))))))
def f_X12_toMeet_L54 (l1 : Int32) (l2 : Int32) : Nat → Int32 → Int32 → Int32 → MS → Option (Int32 × MS)
  | 0, _, _, _, _ => none
  | n + 1, l3, l4, l5, z0 => (if (z0.1 1) ≤ l5 then some (l4, z0) else f_X12_toMeet_L66 (f_X12_toMeet_L54 l1 l2 n) l1 l2 l5 FUEL l3 l4 (0 : Int32) z0)
def f_X12_toMeet (v : MS) (p0 : Int32) (p1 : Int32) : Option (Int32 × MS) := bnd (upd v.1 0 (0 : Int32), v.2) (fun y1 => (f_X12_isPerson y1 p0).bind (fun q2 => (if q2.1 = 0 then some ((0 : Int32), q2.2) else (f_X12_isPerson q2.2 p1).bind (fun q4 => (if q4.1 = 0 then some ((0 : Int32), q4.2) else (f_X12_tries q4.2).bind (fun q6 => (f_X12_areIn q6 p0 p1).bind (fun q7 => (if q7 = 0 then (f_X12_whenIn q6 p0 p1 (1 : Int32) (60 : Int32)).bind (fun q9 => f_X12_toMeet_L54 p0 p1 FUEL q9.1 (-1 : Int32) (0 : Int32) q9.2) else some ((-1 : Int32), q6)))))))))
set_option maxRecDepth 20000 in
theorem w_X12_toMeet_L66 {p : Program} {l : Launch} {e : Env} {s : State} {m : MethodId} {args : Array Value} {below : List Frame} {meth : Method} {c : Code} {D : va_G} {A : Nat → Prop} {dT : Nat → ClassId} {a : Nat → Nat} {res : Int32 × MS} {l1 : Int32} {l2 : Int32} {l5 : Int32} (C : Cx p s m args meth c cX12_toMeet 8 RX12 (some .int) D A dT) {k54 : Int32 → Int32 → Int32 → MS → Option (Int32 × MS)} (hk54 : ∀ (l3 : Int32) (l4 : Int32) (l5 : Int32) (z0 : MS), k54 l3 l4 l5 z0 = some res → WA p l e ({ frames := 6, cells := 0, slots := 0, locals := 145 } : Room) s m args below meth c (MQ below (QI D dT A ([wM dT a res.2]) res.1) args s 0 0 A) D A 0 0 8 54 ([wM dT a z0]) [(0, .ref (a 0)), (1, .int l1), (2, .int l2), (3, .int l3), (4, .int l4), (5, .int l5)] []) : ∀ (n : Nat) (l3 : Int32) (l4 : Int32) (l6 : Int32) (z0 : MS), f_X12_toMeet_L66 k54 l1 l2 l5 n l3 l4 l6 z0 = some res → WA p l e ({ frames := 6, cells := 0, slots := 0, locals := 145 } : Room) s m args below meth c (MQ below (QI D dT A ([wM dT a res.2]) res.1) args s 0 0 A) D A 0 0 8 66 ([wM dT a z0]) [(0, .ref (a 0)), (1, .int l1), (2, .int l2), (3, .int l3), (4, .int l4), (5, .int l5), (6, .int l6)] [] := by
  intro n
  induction n with
  | zero => intro l3 l4 l6 z0 hf; cases hf
  | succ n ih =>
    intro l3 l4 l6 z0 hf
    unfold f_X12_toMeet_L66 at hf
    refine wa_iload C 6 68 dX12_toMeet_66 rfl rfl ?_
    refine wa_aload_n C 0 69 dX12_toMeet_68 rfl rfl ?_
    refine wa_get C 72 0 0 34 dX12_toMeet_69 rfl iX12 q1483 rfl (Nat.le_of_ble_eq_true rfl) rfl rfl rfl ?_
    refine wa_iconst (v := 1) C 73 dX12_toMeet_72 rfl rfl ?_
    obtain ⟨g11, hf⟩ := grd_ex hf
    refine wa_iald C 74 0 10 dX12_toMeet_73 rfl rfl rfl (vi_in g11) ?_
    refine wa_icmp_ge C 159 77 dX12_toMeet_74 rfl rfl (fun c12 => ?_) (fun c12 => ?_)
    · replace hf := ite_t hf c12
      obtain ⟨x13, ex13, hf⟩ := bnd_ex hf
      refine wa_iinc (v := x13) (lv' := [(0, .ref (a 0)), (1, .int l1), (2, .int l2), (3, .int l3), (4, .int l4), (5, .int x13), (6, .int l6)]) C 5 [1, 2, 3, 4, 5, 0, 6] 162 dX12_toMeet_159 rfl rfl (by rw [ex13]; rfl) (Nat.le_of_ble_eq_true rfl) rfl ?_
      refine wa_goto C 54 dX12_toMeet_162 rfl ?_
      refine wa_lv (lv' := [(0, .ref (a 0)), (1, .int l1), (2, .int l2), (3, .int l3), (4, .int l4), (5, .int x13)]) [0, 1, 2, 3, 4, 5] rfl ?_
      exact hk54 l3 l4 x13 z0 hf
    · replace hf := ite_f hf c12
      refine wa_aload_n C 0 78 dX12_toMeet_77 rfl rfl ?_
      refine wa_get C 81 0 0 34 dX12_toMeet_78 rfl iX12 q1483 rfl (Nat.le_of_ble_eq_true rfl) rfl rfl rfl ?_
      refine wa_iconst (v := 2) C 82 dX12_toMeet_81 rfl rfl ?_
      refine wa_iload C 5 84 dX12_toMeet_82 rfl rfl ?_
      refine wa_iadd C 85 dX12_toMeet_84 rfl ?_
      obtain ⟨g14, hf⟩ := grd_ex hf
      refine wa_iald C 86 0 10 dX12_toMeet_85 rfl rfl rfl (vi_in g14) ?_
      refine wa_iload C 6 88 dX12_toMeet_86 rfl rfl ?_
      refine wa_icmp_ne C 94 91 dX12_toMeet_88 rfl rfl (fun c15 => ?_) (fun c15 => ?_)
      · replace hf := ite_f hf c15
        refine wa_aload_n C 0 95 dX12_toMeet_94 rfl rfl ?_
        obtain ⟨q16, hq16, hf⟩ := bind_ex hf
        refine wa_callVAv (b1 := 0) (q1 := 0) (ci := 12) (As := []) C 98 dX12_toMeet_95 rfl kv_X12_337 (c_X12_tries hq16) ⟨rfl, rfl⟩ ⟨Nat.le_of_ble_eq_true rfl, Nat.le_of_ble_eq_true rfl⟩ rfl rfl rfl rfl rfl ⟨Nat.zero_le _, Nat.zero_le _⟩ (Nat.le_of_ble_eq_true rfl) ?_
        refine wa_aload_n C 0 99 dX12_toMeet_98 rfl rfl ?_
        refine wa_bipush (v := 86) C 101 dX12_toMeet_99 rfl rfl ?_
        refine wa_iload C 5 103 dX12_toMeet_101 rfl rfl ?_
        refine wa_iload C 6 105 dX12_toMeet_103 rfl rfl ?_
        obtain ⟨q17, hq17, hf⟩ := bind_ex hf
        refine wa_callVAv (b1 := 0) (q1 := 0) (ci := 12) (As := [.int (86 : Int32), .int l5, .int l6]) C 108 dX12_toMeet_105 rfl kv_X12_392 (c_X12_moves hq17) ⟨rfl, rfl⟩ ⟨Nat.le_of_ble_eq_true rfl, Nat.le_of_ble_eq_true rfl⟩ rfl rfl rfl rfl rfl ⟨Nat.zero_le _, Nat.zero_le _⟩ (Nat.le_of_ble_eq_true rfl) ?_
        refine wa_aload_n C 0 109 dX12_toMeet_108 rfl rfl ?_
        refine wa_iload_n C 1 110 dX12_toMeet_109 rfl rfl ?_
        refine wa_iload_n C 2 111 dX12_toMeet_110 rfl rfl ?_
        obtain ⟨q18, hq18, hf⟩ := bind_ex hf
        refine wa_callVAi (b1 := 0) (q1 := 0) (ci := 12) (As := [.int l1, .int l2]) C 114 dX12_toMeet_111 rfl kv_X12_408 (c_X12_areIn hq18) ⟨rfl, rfl⟩ ⟨Nat.le_of_ble_eq_true rfl, Nat.le_of_ble_eq_true rfl⟩ rfl rfl rfl rfl rfl ⟨Nat.zero_le _, Nat.zero_le _⟩ (Nat.le_of_ble_eq_true rfl) ?_
        refine wa_if_eq C 120 117 dX12_toMeet_114 rfl rfl (fun c19 => ?_) (fun c19 => ?_)
        · replace hf := ite_t hf c19
          refine wa_aload_n C 0 121 dX12_toMeet_120 rfl rfl ?_
          refine wa_iload_n C 1 122 dX12_toMeet_121 rfl rfl ?_
          refine wa_iload_n C 2 123 dX12_toMeet_122 rfl rfl ?_
          refine wa_iconst (v := 1) C 124 dX12_toMeet_123 rfl rfl ?_
          refine wa_bipush (v := 60) C 126 dX12_toMeet_124 rfl rfl ?_
          obtain ⟨q20, hq20, hf⟩ := bind_ex hf
          refine wa_callVAi (b1 := 0) (q1 := 0) (ci := 12) (As := [.int l1, .int l2, .int (1 : Int32), .int (60 : Int32)]) C 129 dX12_toMeet_126 rfl kv_X12_411 (c_X12_whenIn hq20) ⟨rfl, rfl⟩ ⟨Nat.le_of_ble_eq_true rfl, Nat.le_of_ble_eq_true rfl⟩ rfl rfl rfl rfl rfl ⟨Nat.zero_le _, Nat.zero_le _⟩ (Nat.le_of_ble_eq_true rfl) ?_
          refine wa_istore (lv' := [(0, .ref (a 0)), (1, .int l1), (2, .int l2), (3, .int l3), (4, .int l4), (5, .int l5), (6, .int l6), (7, .int q20.1)]) C [1, 2, 3, 4, 5, 6, 7, 0] 131 dX12_toMeet_129 rfl (Nat.le_of_ble_eq_true rfl) rfl ?_
          refine wa_iload C 7 133 dX12_toMeet_131 rfl rfl ?_
          refine wa_iload_n C 3 134 dX12_toMeet_133 rfl rfl ?_
          refine wa_icmp_lt C 140 137 dX12_toMeet_134 rfl rfl (fun c21 => ?_) (fun c21 => ?_)
          · replace hf := ite_t hf c21
            refine wa_bipush (v := 100) C 142 dX12_toMeet_140 rfl rfl ?_
            refine wa_iload C 5 144 dX12_toMeet_142 rfl rfl ?_
            refine wa_imul C 145 dX12_toMeet_144 rfl ?_
            refine wa_iload C 6 147 dX12_toMeet_145 rfl rfl ?_
            refine wa_iadd C 148 dX12_toMeet_147 rfl ?_
            obtain ⟨x22, ex22, hf⟩ := bnd_ex hf
            refine wa_topi ex22 ?_
            refine wa_istore (lv' := [(0, .ref (a 0)), (1, .int l1), (2, .int l2), (3, .int l3), (4, .int x22), (5, .int l5), (6, .int l6), (7, .int q20.1)]) C [1, 2, 3, 4, 0, 5, 6, 7] 150 dX12_toMeet_148 rfl (Nat.le_of_ble_eq_true rfl) rfl ?_
            refine wa_iload C 7 152 dX12_toMeet_150 rfl rfl ?_
            refine wa_istore_n (lv' := [(0, .ref (a 0)), (1, .int l1), (2, .int l2), (3, .int q20.1), (4, .int x22), (5, .int l5), (6, .int l6), (7, .int q20.1)]) C [1, 2, 3, 0, 4, 5, 6, 7] 153 dX12_toMeet_152 rfl (Nat.le_of_ble_eq_true rfl) rfl ?_
            obtain ⟨x23, ex23, hf⟩ := bnd_ex hf
            refine wa_iinc (v := x23) (lv' := [(0, .ref (a 0)), (1, .int l1), (2, .int l2), (3, .int q20.1), (4, .int x22), (5, .int l5), (6, .int x23), (7, .int q20.1)]) C 6 [1, 2, 3, 4, 5, 6, 0, 7] 156 dX12_toMeet_153 rfl rfl (by rw [ex23]; rfl) (Nat.le_of_ble_eq_true rfl) rfl ?_
            refine wa_goto C 66 dX12_toMeet_156 rfl ?_
            refine wa_lv (lv' := [(0, .ref (a 0)), (1, .int l1), (2, .int l2), (3, .int q20.1), (4, .int x22), (5, .int l5), (6, .int x23)]) [0, 1, 2, 3, 4, 5, 6] rfl ?_
            exact ih q20.1 x22 x23 q20.2 hf
          · replace hf := ite_f hf c21
            refine wa_goto C 153 dX12_toMeet_137 rfl ?_
            obtain ⟨x24, ex24, hf⟩ := bnd_ex hf
            refine wa_iinc (v := x24) (lv' := [(0, .ref (a 0)), (1, .int l1), (2, .int l2), (3, .int l3), (4, .int l4), (5, .int l5), (6, .int x24), (7, .int q20.1)]) C 6 [1, 2, 3, 4, 5, 6, 0, 7] 156 dX12_toMeet_153 rfl rfl (by rw [ex24]; rfl) (Nat.le_of_ble_eq_true rfl) rfl ?_
            refine wa_goto C 66 dX12_toMeet_156 rfl ?_
            refine wa_lv (lv' := [(0, .ref (a 0)), (1, .int l1), (2, .int l2), (3, .int l3), (4, .int l4), (5, .int l5), (6, .int x24)]) [0, 1, 2, 3, 4, 5, 6] rfl ?_
            exact ih l3 l4 x24 q20.2 hf
        · replace hf := ite_f hf c19
          refine wa_goto C 153 dX12_toMeet_117 rfl ?_
          obtain ⟨x25, ex25, hf⟩ := bnd_ex hf
          refine wa_iinc (v := x25) (lv' := [(0, .ref (a 0)), (1, .int l1), (2, .int l2), (3, .int l3), (4, .int l4), (5, .int l5), (6, .int x25)]) C 6 [1, 2, 3, 4, 5, 6, 0] 156 dX12_toMeet_153 rfl rfl (by rw [ex25]; rfl) (Nat.le_of_ble_eq_true rfl) rfl ?_
          refine wa_goto C 66 dX12_toMeet_156 rfl ?_
          exact ih l3 l4 x25 q17 hf
      · replace hf := ite_t hf c15
        refine wa_goto C 153 dX12_toMeet_91 rfl ?_
        obtain ⟨x26, ex26, hf⟩ := bnd_ex hf
        refine wa_iinc (v := x26) (lv' := [(0, .ref (a 0)), (1, .int l1), (2, .int l2), (3, .int l3), (4, .int l4), (5, .int l5), (6, .int x26)]) C 6 [1, 2, 3, 4, 5, 6, 0] 156 dX12_toMeet_153 rfl rfl (by rw [ex26]; rfl) (Nat.le_of_ble_eq_true rfl) rfl ?_
        refine wa_goto C 66 dX12_toMeet_156 rfl ?_
        exact ih l3 l4 x26 z0 hf
set_option maxRecDepth 20000 in
theorem w_X12_toMeet_L54 {p : Program} {l : Launch} {e : Env} {s : State} {m : MethodId} {args : Array Value} {below : List Frame} {meth : Method} {c : Code} {D : va_G} {A : Nat → Prop} {dT : Nat → ClassId} {a : Nat → Nat} {res : Int32 × MS} {l1 : Int32} {l2 : Int32} (C : Cx p s m args meth c cX12_toMeet 8 RX12 (some .int) D A dT) : ∀ (n : Nat) (l3 : Int32) (l4 : Int32) (l5 : Int32) (z0 : MS), f_X12_toMeet_L54 l1 l2 n l3 l4 l5 z0 = some res → WA p l e ({ frames := 6, cells := 0, slots := 0, locals := 145 } : Room) s m args below meth c (MQ below (QI D dT A ([wM dT a res.2]) res.1) args s 0 0 A) D A 0 0 8 54 ([wM dT a z0]) [(0, .ref (a 0)), (1, .int l1), (2, .int l2), (3, .int l3), (4, .int l4), (5, .int l5)] [] := by
  intro n
  induction n with
  | zero => intro l3 l4 l5 z0 hf; cases hf
  | succ n ih =>
    intro l3 l4 l5 z0 hf
    unfold f_X12_toMeet_L54 at hf
    refine wa_iload C 5 56 dX12_toMeet_54 rfl rfl ?_
    refine wa_aload_n C 0 57 dX12_toMeet_56 rfl rfl ?_
    refine wa_get C 60 0 0 1 dX12_toMeet_57 rfl iX12 q1450 rfl (Nat.le_of_ble_eq_true rfl) rfl rfl rfl ?_
    refine wa_icmp_ge C 165 63 dX12_toMeet_60 rfl rfl (fun c10 => ?_) (fun c10 => ?_)
    · replace hf := ite_t hf c10
      refine wa_iload C 4 167 dX12_toMeet_165 rfl rfl ?_
      cases hf
      exact wa_iret C dX12_toMeet_167 rfl rfl
    · replace hf := ite_f hf c10
      refine wa_iconst (v := 0) C 64 dX12_toMeet_63 rfl rfl ?_
      refine wa_istore (lv' := [(0, .ref (a 0)), (1, .int l1), (2, .int l2), (3, .int l3), (4, .int l4), (5, .int l5), (6, .int (0 : Int32))]) C [1, 2, 3, 4, 5, 6, 0] 66 dX12_toMeet_64 rfl (Nat.le_of_ble_eq_true rfl) rfl ?_
      exact w_X12_toMeet_L66 C ih FUEL l3 l4 (0 : Int32) z0 hf
set_option maxRecDepth 20000 in
theorem c_X12_toMeet {l : Launch} {D : va_G} {dT : Nat → ClassId} {a : Nat → Nat} {v : MS} {p0 : Int32} {p1 : Int32} {res : Int32 × MS} (hf : f_X12_toMeet v p0 p1 = some res) : CTi l yX12_toMeet cX12_toMeet 8 (some .int) ({ frames := 6, cells := 0, slots := 0, locals := 145 } : Room) D dT [.ref (a 0), .int p0, .int p1] ([wM dT a v]) ([wM dT a res.2]) res.1 := by
  refine CTi.of (by decide) (Nat.le_of_ble_eq_true rfl) rfl ?_
  intro p e s m args below meth c A C
  unfold f_X12_toMeet at hf
  refine wa_aload_n C 0 1 dX12_toMeet_0 rfl rfl ?_
  refine wa_iconst (v := 0) C 2 dX12_toMeet_1 rfl rfl ?_
  obtain ⟨y1, ey1, hf⟩ := bnd_ex hf
  refine wa_put (ws' := [wM dT a y1]) C 5 0 0 0 tyX12 dX12_toMeet_2 rfl iX12 tyX12_ok nmX12 q1449 rfl (Nat.le_of_ble_eq_true rfl) rfl rfl rfl rfl rfl (Nat.le_of_ble_eq_true rfl) (by rw [ey1]; rfl) ?_
  refine wa_aload_n C 0 6 dX12_toMeet_5 rfl rfl ?_
  refine wa_iload_n C 1 7 dX12_toMeet_6 rfl rfl ?_
  obtain ⟨q2, hq2, hf⟩ := bind_ex hf
  refine wa_callVAi (b1 := 0) (q1 := 0) (ci := 12) (As := [.int p0]) C 10 dX12_toMeet_7 rfl kv_X12_368 (c_X12_isPerson hq2) ⟨rfl, rfl⟩ ⟨Nat.le_of_ble_eq_true rfl, Nat.le_of_ble_eq_true rfl⟩ rfl rfl rfl rfl rfl ⟨Nat.zero_le _, Nat.zero_le _⟩ (Nat.le_of_ble_eq_true rfl) ?_
  refine wa_if_eq C 21 13 dX12_toMeet_10 rfl rfl (fun c3 => ?_) (fun c3 => ?_)
  · replace hf := ite_t hf c3
    refine wa_iconst (v := 0) C 22 dX12_toMeet_21 rfl rfl ?_
    cases hf
    exact wa_iret C dX12_toMeet_22 rfl rfl
  · replace hf := ite_f hf c3
    refine wa_aload_n C 0 14 dX12_toMeet_13 rfl rfl ?_
    refine wa_iload_n C 2 15 dX12_toMeet_14 rfl rfl ?_
    obtain ⟨q4, hq4, hf⟩ := bind_ex hf
    refine wa_callVAi (b1 := 0) (q1 := 0) (ci := 12) (As := [.int p1]) C 18 dX12_toMeet_15 rfl kv_X12_368 (c_X12_isPerson hq4) ⟨rfl, rfl⟩ ⟨Nat.le_of_ble_eq_true rfl, Nat.le_of_ble_eq_true rfl⟩ rfl rfl rfl rfl rfl ⟨Nat.zero_le _, Nat.zero_le _⟩ (Nat.le_of_ble_eq_true rfl) ?_
    refine wa_if_ne C 23 21 dX12_toMeet_18 rfl rfl (fun c5 => ?_) (fun c5 => ?_)
    · replace hf := ite_f hf c5
      refine wa_aload_n C 0 24 dX12_toMeet_23 rfl rfl ?_
      obtain ⟨q6, hq6, hf⟩ := bind_ex hf
      refine wa_callVAv (b1 := 0) (q1 := 0) (ci := 12) (As := []) C 27 dX12_toMeet_24 rfl kv_X12_337 (c_X12_tries hq6) ⟨rfl, rfl⟩ ⟨Nat.le_of_ble_eq_true rfl, Nat.le_of_ble_eq_true rfl⟩ rfl rfl rfl rfl rfl ⟨Nat.zero_le _, Nat.zero_le _⟩ (Nat.le_of_ble_eq_true rfl) ?_
      refine wa_aload_n C 0 28 dX12_toMeet_27 rfl rfl ?_
      refine wa_iload_n C 1 29 dX12_toMeet_28 rfl rfl ?_
      refine wa_iload_n C 2 30 dX12_toMeet_29 rfl rfl ?_
      obtain ⟨q7, hq7, hf⟩ := bind_ex hf
      refine wa_callVAi (b1 := 0) (q1 := 0) (ci := 12) (As := [.int p0, .int p1]) C 33 dX12_toMeet_30 rfl kv_X12_408 (c_X12_areIn hq7) ⟨rfl, rfl⟩ ⟨Nat.le_of_ble_eq_true rfl, Nat.le_of_ble_eq_true rfl⟩ rfl rfl rfl rfl rfl ⟨Nat.zero_le _, Nat.zero_le _⟩ (Nat.le_of_ble_eq_true rfl) ?_
      refine wa_if_eq C 38 36 dX12_toMeet_33 rfl rfl (fun c8 => ?_) (fun c8 => ?_)
      · replace hf := ite_t hf c8
        refine wa_aload_n C 0 39 dX12_toMeet_38 rfl rfl ?_
        refine wa_iload_n C 1 40 dX12_toMeet_39 rfl rfl ?_
        refine wa_iload_n C 2 41 dX12_toMeet_40 rfl rfl ?_
        refine wa_iconst (v := 1) C 42 dX12_toMeet_41 rfl rfl ?_
        refine wa_bipush (v := 60) C 44 dX12_toMeet_42 rfl rfl ?_
        obtain ⟨q9, hq9, hf⟩ := bind_ex hf
        refine wa_callVAi (b1 := 0) (q1 := 0) (ci := 12) (As := [.int p0, .int p1, .int (1 : Int32), .int (60 : Int32)]) C 47 dX12_toMeet_44 rfl kv_X12_411 (c_X12_whenIn hq9) ⟨rfl, rfl⟩ ⟨Nat.le_of_ble_eq_true rfl, Nat.le_of_ble_eq_true rfl⟩ rfl rfl rfl rfl rfl ⟨Nat.zero_le _, Nat.zero_le _⟩ (Nat.le_of_ble_eq_true rfl) ?_
        refine wa_istore_n (lv' := [(0, .ref (a 0)), (1, .int p0), (2, .int p1), (3, .int q9.1)]) C [1, 2, 3, 0] 48 dX12_toMeet_47 rfl (Nat.le_of_ble_eq_true rfl) rfl ?_
        refine wa_iconst (v := (-1)) C 49 dX12_toMeet_48 rfl rfl ?_
        refine wa_istore (lv' := [(0, .ref (a 0)), (1, .int p0), (2, .int p1), (3, .int q9.1), (4, .int (-1 : Int32))]) C [1, 2, 3, 4, 0] 51 dX12_toMeet_49 rfl (Nat.le_of_ble_eq_true rfl) rfl ?_
        refine wa_iconst (v := 0) C 52 dX12_toMeet_51 rfl rfl ?_
        refine wa_istore (lv' := [(0, .ref (a 0)), (1, .int p0), (2, .int p1), (3, .int q9.1), (4, .int (-1 : Int32)), (5, .int (0 : Int32))]) C [1, 2, 3, 4, 5, 0] 54 dX12_toMeet_52 rfl (Nat.le_of_ble_eq_true rfl) rfl ?_
        exact w_X12_toMeet_L54 C FUEL q9.1 (-1 : Int32) (0 : Int32) q9.2 hf
      · replace hf := ite_f hf c8
        refine wa_iconst (v := (-1)) C 37 dX12_toMeet_36 rfl rfl ?_
        cases hf
        exact wa_iret C dX12_toMeet_37 rfl rfl
    · replace hf := ite_t hf c5
      refine wa_iconst (v := 0) C 22 dX12_toMeet_21 rfl rfl ?_
      cases hf
      exact wa_iret C dX12_toMeet_22 rfl rfl
def f_X12_toJoin_L31 (k18 : Int32 → Int32 → Int32 → MS → Option (Int32 × MS)) (l3 : Int32) : Nat → Int32 → Int32 → Int32 → MS → Option (Int32 × MS)
  | 0, _, _, _, _ => none
  | n + 1, l1, l2, l4, z0 => grd (vi (1 : Int32) 172) ((if (z0.2.2 10 ((1 : Int32)).toNatClampNeg) ≤ l4 then bnd (l3 + 1) (fun x8 => k18 l1 l2 x8 z0) else (if l3 = l4 then bnd (l4 + 1) (fun x17 => f_X12_toJoin_L31 k18 l3 n l1 l2 x17 z0) else (f_X12_tries z0).bind (fun q10 => (f_X12_joins q10 (86 : Int32) l3 l4).bind (fun q11 => (f_X12_allKnownIn q11).bind (fun q12 => (if q12.1 < l1 then bnd (((100 : Int32) * l3) + l4) (fun x14 => bnd (l4 + 1) (fun x15 => f_X12_toJoin_L31 k18 l3 n q12.1 x14 x15 q12.2)) else bnd (l4 + 1) (fun x16 => f_X12_toJoin_L31 k18 l3 n l1 l2 x16 q12.2))))))))
def f_X12_toJoin_L18 : Nat → Int32 → Int32 → Int32 → MS → Option (Int32 × MS)
  | 0, _, _, _, _ => none
  | n + 1, l1, l2, l3, z0 => grd (vi (1 : Int32) 172) ((if (z0.2.2 10 ((1 : Int32)).toNatClampNeg) ≤ l3 then some (l2, z0) else f_X12_toJoin_L31 (f_X12_toJoin_L18 n) l3 FUEL l1 l2 (0 : Int32) z0))
def f_X12_toJoin (v : MS) : Option (Int32 × MS) := bnd (upd v.1 0 (0 : Int32), v.2) (fun y1 => (f_X12_tries y1).bind (fun q2 => (f_X12_allKnownIn q2).bind (fun q3 => f_X12_toJoin_L18 FUEL q3.1 (-1 : Int32) (0 : Int32) q3.2)))
set_option maxRecDepth 20000 in
theorem w_X12_toJoin_L31 {p : Program} {l : Launch} {e : Env} {s : State} {m : MethodId} {args : Array Value} {below : List Frame} {meth : Method} {c : Code} {D : va_G} {A : Nat → Prop} {dT : Nat → ClassId} {a : Nat → Nat} {res : Int32 × MS} {l3 : Int32} (C : Cx p s m args meth c cX12_toJoin 6 RX12 (some .int) D A dT) {k18 : Int32 → Int32 → Int32 → MS → Option (Int32 × MS)} (hk18 : ∀ (l1 : Int32) (l2 : Int32) (l3 : Int32) (z0 : MS), k18 l1 l2 l3 z0 = some res → WA p l e ({ frames := 6, cells := 0, slots := 0, locals := 141 } : Room) s m args below meth c (MQ below (QI D dT A ([wM dT a res.2]) res.1) args s 0 0 A) D A 0 0 6 18 ([wM dT a z0]) [(0, .ref (a 0)), (1, .int l1), (2, .int l2), (3, .int l3)] []) : ∀ (n : Nat) (l1 : Int32) (l2 : Int32) (l4 : Int32) (z0 : MS), f_X12_toJoin_L31 k18 l3 n l1 l2 l4 z0 = some res → WA p l e ({ frames := 6, cells := 0, slots := 0, locals := 141 } : Room) s m args below meth c (MQ below (QI D dT A ([wM dT a res.2]) res.1) args s 0 0 A) D A 0 0 6 31 ([wM dT a z0]) [(0, .ref (a 0)), (1, .int l1), (2, .int l2), (3, .int l3), (4, .int l4)] [] := by
  intro n
  induction n with
  | zero => intro l1 l2 l4 z0 hf; cases hf
  | succ n ih =>
    intro l1 l2 l4 z0 hf
    unfold f_X12_toJoin_L31 at hf
    refine wa_iload C 4 33 dX12_toJoin_31 rfl rfl ?_
    refine wa_aload_n C 0 34 dX12_toJoin_33 rfl rfl ?_
    refine wa_get C 37 0 0 34 dX12_toJoin_34 rfl iX12 q1483 rfl (Nat.le_of_ble_eq_true rfl) rfl rfl rfl ?_
    refine wa_iconst (v := 1) C 38 dX12_toJoin_37 rfl rfl ?_
    obtain ⟨g6, hf⟩ := grd_ex hf
    refine wa_iald C 39 0 10 dX12_toJoin_38 rfl rfl rfl (vi_in g6) ?_
    refine wa_icmp_ge C 96 42 dX12_toJoin_39 rfl rfl (fun c7 => ?_) (fun c7 => ?_)
    · replace hf := ite_t hf c7
      obtain ⟨x8, ex8, hf⟩ := bnd_ex hf
      refine wa_iinc (v := x8) (lv' := [(0, .ref (a 0)), (1, .int l1), (2, .int l2), (3, .int x8), (4, .int l4)]) C 3 [1, 2, 3, 0, 4] 99 dX12_toJoin_96 rfl rfl (by rw [ex8]; rfl) (Nat.le_of_ble_eq_true rfl) rfl ?_
      refine wa_goto C 18 dX12_toJoin_99 rfl ?_
      refine wa_lv (lv' := [(0, .ref (a 0)), (1, .int l1), (2, .int l2), (3, .int x8)]) [0, 1, 2, 3] rfl ?_
      exact hk18 l1 l2 x8 z0 hf
    · replace hf := ite_f hf c7
      refine wa_iload_n C 3 43 dX12_toJoin_42 rfl rfl ?_
      refine wa_iload C 4 45 dX12_toJoin_43 rfl rfl ?_
      refine wa_icmp_ne C 51 48 dX12_toJoin_45 rfl rfl (fun c9 => ?_) (fun c9 => ?_)
      · replace hf := ite_f hf c9
        refine wa_aload_n C 0 52 dX12_toJoin_51 rfl rfl ?_
        obtain ⟨q10, hq10, hf⟩ := bind_ex hf
        refine wa_callVAv (b1 := 0) (q1 := 0) (ci := 12) (As := []) C 55 dX12_toJoin_52 rfl kv_X12_337 (c_X12_tries hq10) ⟨rfl, rfl⟩ ⟨Nat.le_of_ble_eq_true rfl, Nat.le_of_ble_eq_true rfl⟩ rfl rfl rfl rfl rfl ⟨Nat.zero_le _, Nat.zero_le _⟩ (Nat.le_of_ble_eq_true rfl) ?_
        refine wa_aload_n C 0 56 dX12_toJoin_55 rfl rfl ?_
        refine wa_bipush (v := 86) C 58 dX12_toJoin_56 rfl rfl ?_
        refine wa_iload_n C 3 59 dX12_toJoin_58 rfl rfl ?_
        refine wa_iload C 4 61 dX12_toJoin_59 rfl rfl ?_
        obtain ⟨q11, hq11, hf⟩ := bind_ex hf
        refine wa_callVAv (b1 := 0) (q1 := 0) (ci := 12) (As := [.int (86 : Int32), .int l3, .int l4]) C 64 dX12_toJoin_61 rfl kv_X12_399 (c_X12_joins hq11) ⟨rfl, rfl⟩ ⟨Nat.le_of_ble_eq_true rfl, Nat.le_of_ble_eq_true rfl⟩ rfl rfl rfl rfl rfl ⟨Nat.zero_le _, Nat.zero_le _⟩ (Nat.le_of_ble_eq_true rfl) ?_
        refine wa_aload_n C 0 65 dX12_toJoin_64 rfl rfl ?_
        obtain ⟨q12, hq12, hf⟩ := bind_ex hf
        refine wa_callVAi (b1 := 0) (q1 := 0) (ci := 12) (As := []) C 68 dX12_toJoin_65 rfl kv_X12_424 (c_X12_allKnownIn hq12) ⟨rfl, rfl⟩ ⟨Nat.le_of_ble_eq_true rfl, Nat.le_of_ble_eq_true rfl⟩ rfl rfl rfl rfl rfl ⟨Nat.zero_le _, Nat.zero_le _⟩ (Nat.le_of_ble_eq_true rfl) ?_
        refine wa_istore (lv' := [(0, .ref (a 0)), (1, .int l1), (2, .int l2), (3, .int l3), (4, .int l4), (5, .int q12.1)]) C [1, 2, 3, 4, 5, 0] 70 dX12_toJoin_68 rfl (Nat.le_of_ble_eq_true rfl) rfl ?_
        refine wa_iload C 5 72 dX12_toJoin_70 rfl rfl ?_
        refine wa_iload_n C 1 73 dX12_toJoin_72 rfl rfl ?_
        refine wa_icmp_lt C 79 76 dX12_toJoin_73 rfl rfl (fun c13 => ?_) (fun c13 => ?_)
        · replace hf := ite_t hf c13
          refine wa_bipush (v := 100) C 81 dX12_toJoin_79 rfl rfl ?_
          refine wa_iload_n C 3 82 dX12_toJoin_81 rfl rfl ?_
          refine wa_imul C 83 dX12_toJoin_82 rfl ?_
          refine wa_iload C 4 85 dX12_toJoin_83 rfl rfl ?_
          refine wa_iadd C 86 dX12_toJoin_85 rfl ?_
          obtain ⟨x14, ex14, hf⟩ := bnd_ex hf
          refine wa_topi ex14 ?_
          refine wa_istore_n (lv' := [(0, .ref (a 0)), (1, .int l1), (2, .int x14), (3, .int l3), (4, .int l4), (5, .int q12.1)]) C [1, 2, 0, 3, 4, 5] 87 dX12_toJoin_86 rfl (Nat.le_of_ble_eq_true rfl) rfl ?_
          refine wa_iload C 5 89 dX12_toJoin_87 rfl rfl ?_
          refine wa_istore_n (lv' := [(0, .ref (a 0)), (1, .int q12.1), (2, .int x14), (3, .int l3), (4, .int l4), (5, .int q12.1)]) C [1, 0, 2, 3, 4, 5] 90 dX12_toJoin_89 rfl (Nat.le_of_ble_eq_true rfl) rfl ?_
          obtain ⟨x15, ex15, hf⟩ := bnd_ex hf
          refine wa_iinc (v := x15) (lv' := [(0, .ref (a 0)), (1, .int q12.1), (2, .int x14), (3, .int l3), (4, .int x15), (5, .int q12.1)]) C 4 [1, 2, 3, 4, 0, 5] 93 dX12_toJoin_90 rfl rfl (by rw [ex15]; rfl) (Nat.le_of_ble_eq_true rfl) rfl ?_
          refine wa_goto C 31 dX12_toJoin_93 rfl ?_
          refine wa_lv (lv' := [(0, .ref (a 0)), (1, .int q12.1), (2, .int x14), (3, .int l3), (4, .int x15)]) [0, 1, 2, 3, 4] rfl ?_
          exact ih q12.1 x14 x15 q12.2 hf
        · replace hf := ite_f hf c13
          refine wa_goto C 90 dX12_toJoin_76 rfl ?_
          obtain ⟨x16, ex16, hf⟩ := bnd_ex hf
          refine wa_iinc (v := x16) (lv' := [(0, .ref (a 0)), (1, .int l1), (2, .int l2), (3, .int l3), (4, .int x16), (5, .int q12.1)]) C 4 [1, 2, 3, 4, 0, 5] 93 dX12_toJoin_90 rfl rfl (by rw [ex16]; rfl) (Nat.le_of_ble_eq_true rfl) rfl ?_
          refine wa_goto C 31 dX12_toJoin_93 rfl ?_
          refine wa_lv (lv' := [(0, .ref (a 0)), (1, .int l1), (2, .int l2), (3, .int l3), (4, .int x16)]) [0, 1, 2, 3, 4] rfl ?_
          exact ih l1 l2 x16 q12.2 hf
      · replace hf := ite_t hf c9
        refine wa_goto C 90 dX12_toJoin_48 rfl ?_
        obtain ⟨x17, ex17, hf⟩ := bnd_ex hf
        refine wa_iinc (v := x17) (lv' := [(0, .ref (a 0)), (1, .int l1), (2, .int l2), (3, .int l3), (4, .int x17)]) C 4 [1, 2, 3, 4, 0] 93 dX12_toJoin_90 rfl rfl (by rw [ex17]; rfl) (Nat.le_of_ble_eq_true rfl) rfl ?_
        refine wa_goto C 31 dX12_toJoin_93 rfl ?_
        exact ih l1 l2 x17 z0 hf
set_option maxRecDepth 20000 in
theorem w_X12_toJoin_L18 {p : Program} {l : Launch} {e : Env} {s : State} {m : MethodId} {args : Array Value} {below : List Frame} {meth : Method} {c : Code} {D : va_G} {A : Nat → Prop} {dT : Nat → ClassId} {a : Nat → Nat} {res : Int32 × MS} (C : Cx p s m args meth c cX12_toJoin 6 RX12 (some .int) D A dT) : ∀ (n : Nat) (l1 : Int32) (l2 : Int32) (l3 : Int32) (z0 : MS), f_X12_toJoin_L18 n l1 l2 l3 z0 = some res → WA p l e ({ frames := 6, cells := 0, slots := 0, locals := 141 } : Room) s m args below meth c (MQ below (QI D dT A ([wM dT a res.2]) res.1) args s 0 0 A) D A 0 0 6 18 ([wM dT a z0]) [(0, .ref (a 0)), (1, .int l1), (2, .int l2), (3, .int l3)] [] := by
  intro n
  induction n with
  | zero => intro l1 l2 l3 z0 hf; cases hf
  | succ n ih =>
    intro l1 l2 l3 z0 hf
    unfold f_X12_toJoin_L18 at hf
    refine wa_iload_n C 3 19 dX12_toJoin_18 rfl rfl ?_
    refine wa_aload_n C 0 20 dX12_toJoin_19 rfl rfl ?_
    refine wa_get C 23 0 0 34 dX12_toJoin_20 rfl iX12 q1483 rfl (Nat.le_of_ble_eq_true rfl) rfl rfl rfl ?_
    refine wa_iconst (v := 1) C 24 dX12_toJoin_23 rfl rfl ?_
    obtain ⟨g4, hf⟩ := grd_ex hf
    refine wa_iald C 25 0 10 dX12_toJoin_24 rfl rfl rfl (vi_in g4) ?_
    refine wa_icmp_ge C 102 28 dX12_toJoin_25 rfl rfl (fun c5 => ?_) (fun c5 => ?_)
    · replace hf := ite_t hf c5
      refine wa_iload_n C 2 103 dX12_toJoin_102 rfl rfl ?_
      cases hf
      exact wa_iret C dX12_toJoin_103 rfl rfl
    · replace hf := ite_f hf c5
      refine wa_iconst (v := 0) C 29 dX12_toJoin_28 rfl rfl ?_
      refine wa_istore (lv' := [(0, .ref (a 0)), (1, .int l1), (2, .int l2), (3, .int l3), (4, .int (0 : Int32))]) C [1, 2, 3, 4, 0] 31 dX12_toJoin_29 rfl (Nat.le_of_ble_eq_true rfl) rfl ?_
      exact w_X12_toJoin_L31 C ih FUEL l1 l2 (0 : Int32) z0 hf
set_option maxRecDepth 20000 in
theorem c_X12_toJoin {l : Launch} {D : va_G} {dT : Nat → ClassId} {a : Nat → Nat} {v : MS} {res : Int32 × MS} (hf : f_X12_toJoin v = some res) : CTi l yX12_toJoin cX12_toJoin 6 (some .int) ({ frames := 6, cells := 0, slots := 0, locals := 141 } : Room) D dT [.ref (a 0)] ([wM dT a v]) ([wM dT a res.2]) res.1 := by
  refine CTi.of (by decide) (Nat.le_of_ble_eq_true rfl) rfl ?_
  intro p e s m args below meth c A C
  unfold f_X12_toJoin at hf
  refine wa_aload_n C 0 1 dX12_toJoin_0 rfl rfl ?_
  refine wa_iconst (v := 0) C 2 dX12_toJoin_1 rfl rfl ?_
  obtain ⟨y1, ey1, hf⟩ := bnd_ex hf
  refine wa_put (ws' := [wM dT a y1]) C 5 0 0 0 tyX12 dX12_toJoin_2 rfl iX12 tyX12_ok nmX12 q1449 rfl (Nat.le_of_ble_eq_true rfl) rfl rfl rfl rfl rfl (Nat.le_of_ble_eq_true rfl) (by rw [ey1]; rfl) ?_
  refine wa_aload_n C 0 6 dX12_toJoin_5 rfl rfl ?_
  obtain ⟨q2, hq2, hf⟩ := bind_ex hf
  refine wa_callVAv (b1 := 0) (q1 := 0) (ci := 12) (As := []) C 9 dX12_toJoin_6 rfl kv_X12_337 (c_X12_tries hq2) ⟨rfl, rfl⟩ ⟨Nat.le_of_ble_eq_true rfl, Nat.le_of_ble_eq_true rfl⟩ rfl rfl rfl rfl rfl ⟨Nat.zero_le _, Nat.zero_le _⟩ (Nat.le_of_ble_eq_true rfl) ?_
  refine wa_aload_n C 0 10 dX12_toJoin_9 rfl rfl ?_
  obtain ⟨q3, hq3, hf⟩ := bind_ex hf
  refine wa_callVAi (b1 := 0) (q1 := 0) (ci := 12) (As := []) C 13 dX12_toJoin_10 rfl kv_X12_424 (c_X12_allKnownIn hq3) ⟨rfl, rfl⟩ ⟨Nat.le_of_ble_eq_true rfl, Nat.le_of_ble_eq_true rfl⟩ rfl rfl rfl rfl rfl ⟨Nat.zero_le _, Nat.zero_le _⟩ (Nat.le_of_ble_eq_true rfl) ?_
  refine wa_istore_n (lv' := [(0, .ref (a 0)), (1, .int q3.1)]) C [1, 0] 14 dX12_toJoin_13 rfl (Nat.le_of_ble_eq_true rfl) rfl ?_
  refine wa_iconst (v := (-1)) C 15 dX12_toJoin_14 rfl rfl ?_
  refine wa_istore_n (lv' := [(0, .ref (a 0)), (1, .int q3.1), (2, .int (-1 : Int32))]) C [1, 2, 0] 16 dX12_toJoin_15 rfl (Nat.le_of_ble_eq_true rfl) rfl ?_
  refine wa_iconst (v := 0) C 17 dX12_toJoin_16 rfl rfl ?_
  refine wa_istore_n (lv' := [(0, .ref (a 0)), (1, .int q3.1), (2, .int (-1 : Int32)), (3, .int (0 : Int32))]) C [1, 2, 3, 0] 18 dX12_toJoin_17 rfl (Nat.le_of_ble_eq_true rfl) rfl ?_
  exact w_X12_toJoin_L18 C FUEL q3.1 (-1 : Int32) (0 : Int32) q3.2 hf
def f_X12_partners (v : MS) (p0 : Int32) : Option (Int32 × MS) := bnd (upd v.1 0 (0 : Int32), v.2) (fun y1 => (f_X12_isWhat y1 p0 (1 : Int32)).bind (fun q2 => (if q2.1 = 0 then some ((0 : Int32), q2.2) else (f_X12_laysPairs q2.2).bind (fun q4 => (if p0 = 0 then grd (vi (0 : Int32) 4096) (some ((((q4.1 1) - ((q4.2.2 19 ((0 : Int32)).toNatClampNeg) / (1000 : Int32))) / (2 : Int32)), q4)) else grd (vi (0 : Int32) 4096) (some (((q4.2.2 19 ((0 : Int32)).toNatClampNeg) - (q4.2.2 19 ((0 : Int32)).toNatClampNeg) / (1000 : Int32) * (1000 : Int32)), q4)))))))
set_option maxRecDepth 20000 in
theorem c_X12_partners {l : Launch} {D : va_G} {dT : Nat → ClassId} {a : Nat → Nat} {v : MS} {p0 : Int32} {res : Int32 × MS} (hf : f_X12_partners v p0 = some res) : CTi l yX12_partners cX12_partners 2 (some .int) ({ frames := 3, cells := 0, slots := 0, locals := 69 } : Room) D dT [.ref (a 0), .int p0] ([wM dT a v]) ([wM dT a res.2]) res.1 := by
  refine CTi.of (by decide) (Nat.le_of_ble_eq_true rfl) rfl ?_
  intro p e s m args below meth c A C
  unfold f_X12_partners at hf
  refine wa_aload_n C 0 1 dX12_partners_0 rfl rfl ?_
  refine wa_iconst (v := 0) C 2 dX12_partners_1 rfl rfl ?_
  obtain ⟨y1, ey1, hf⟩ := bnd_ex hf
  refine wa_put (ws' := [wM dT a y1]) C 5 0 0 0 tyX12 dX12_partners_2 rfl iX12 tyX12_ok nmX12 q1449 rfl (Nat.le_of_ble_eq_true rfl) rfl rfl rfl rfl rfl (Nat.le_of_ble_eq_true rfl) (by rw [ey1]; rfl) ?_
  refine wa_aload_n C 0 6 dX12_partners_5 rfl rfl ?_
  refine wa_iload_n C 1 7 dX12_partners_6 rfl rfl ?_
  refine wa_iconst (v := 1) C 8 dX12_partners_7 rfl rfl ?_
  obtain ⟨q2, hq2, hf⟩ := bind_ex hf
  refine wa_callVAi (b1 := 0) (q1 := 0) (ci := 12) (As := [.int p0, .int (1 : Int32)]) C 11 dX12_partners_8 rfl kv_X12_371 (c_X12_isWhat hq2) ⟨rfl, rfl⟩ ⟨Nat.le_of_ble_eq_true rfl, Nat.le_of_ble_eq_true rfl⟩ rfl rfl rfl rfl rfl ⟨Nat.zero_le _, Nat.zero_le _⟩ (Nat.le_of_ble_eq_true rfl) ?_
  refine wa_if_ne C 16 14 dX12_partners_11 rfl rfl (fun c3 => ?_) (fun c3 => ?_)
  · replace hf := ite_f hf c3
    refine wa_aload_n C 0 17 dX12_partners_16 rfl rfl ?_
    obtain ⟨q4, hq4, hf⟩ := bind_ex hf
    refine wa_callVAv (b1 := 0) (q1 := 0) (ci := 12) (As := []) C 20 dX12_partners_17 rfl kv_X12_442 (c_X12_laysPairs hq4) ⟨rfl, rfl⟩ ⟨Nat.le_of_ble_eq_true rfl, Nat.le_of_ble_eq_true rfl⟩ rfl rfl rfl rfl rfl ⟨Nat.zero_le _, Nat.zero_le _⟩ (Nat.le_of_ble_eq_true rfl) ?_
    refine wa_iload_n C 1 21 dX12_partners_20 rfl rfl ?_
    refine wa_if_ne C 44 24 dX12_partners_21 rfl rfl (fun c5 => ?_) (fun c5 => ?_)
    · replace hf := ite_f hf c5
      refine wa_aload_n C 0 45 dX12_partners_44 rfl rfl ?_
      refine wa_get C 48 0 0 47 dX12_partners_45 rfl iX12 q1496 rfl (Nat.le_of_ble_eq_true rfl) rfl rfl rfl ?_
      refine wa_iconst (v := 0) C 49 dX12_partners_48 rfl rfl ?_
      obtain ⟨g6, hf⟩ := grd_ex hf
      refine wa_iald C 50 0 19 dX12_partners_49 rfl rfl rfl (vi_in g6) ?_
      refine wa_sipush (v := 1000) C 53 dX12_partners_50 rfl rfl ?_
      refine wa_irem C 54 dX12_partners_53 rfl (by decide) ?_
      cases hf
      exact wa_iret C dX12_partners_54 rfl rfl
    · replace hf := ite_t hf c5
      refine wa_aload_n C 0 25 dX12_partners_24 rfl rfl ?_
      refine wa_get C 28 0 0 1 dX12_partners_25 rfl iX12 q1450 rfl (Nat.le_of_ble_eq_true rfl) rfl rfl rfl ?_
      refine wa_aload_n C 0 29 dX12_partners_28 rfl rfl ?_
      refine wa_get C 32 0 0 47 dX12_partners_29 rfl iX12 q1496 rfl (Nat.le_of_ble_eq_true rfl) rfl rfl rfl ?_
      refine wa_iconst (v := 0) C 33 dX12_partners_32 rfl rfl ?_
      obtain ⟨g7, hf⟩ := grd_ex hf
      refine wa_iald C 34 0 19 dX12_partners_33 rfl rfl rfl (vi_in g7) ?_
      refine wa_sipush (v := 1000) C 37 dX12_partners_34 rfl rfl ?_
      refine wa_idiv C 38 dX12_partners_37 rfl (by decide) ?_
      refine wa_isub C 39 dX12_partners_38 rfl ?_
      refine wa_iconst (v := 2) C 40 dX12_partners_39 rfl rfl ?_
      refine wa_idiv C 41 dX12_partners_40 rfl (by decide) ?_
      refine wa_goto C 54 dX12_partners_41 rfl ?_
      cases hf
      exact wa_iret C dX12_partners_54 rfl rfl
  · replace hf := ite_t hf c3
    refine wa_iconst (v := 0) C 15 dX12_partners_14 rfl rfl ?_
    cases hf
    exact wa_iret C dX12_partners_15 rfl rfl
def f_X12_halves_L76 (k59 : Int32 → Int32 → Int32 → Option (Int32 × MS)) (l1 : Int32) (l2 : Int32) (l3 : Int32) (l4 : Int32) (l5 : Int32) (z0 : MS) : Nat → Int32 → Int32 → Option (Int32 × MS)
  | 0, _, _ => none
  | n + 1, l6, l7 => (if (z0.1 1) ≤ l7 then (f_X12_apart ((2 : Int32) * l6) l2).bind (fun q9 => (if q9 < l4 then (f_X12_apart ((2 : Int32) * l6) l2).bind (fun q11 => bnd (l5 + 2) (fun x12 => k59 l5 q11 x12)) else bnd (l5 + 2) (fun x13 => k59 l3 l4 x13))) else grd (vi ((50 : Int32) + l7) 172) (bnd (l6 + (((l5 >>> (l7 &&& 31)) &&& (1 : Int32)) * (z0.2.2 10 (((50 : Int32) + l7)).toNatClampNeg))) (fun x15 => bnd (l7 + 1) (fun x16 => f_X12_halves_L76 k59 l1 l2 l3 l4 l5 z0 n x15 x16))))
def f_X12_halves_L59 (l1 : Int32) (l2 : Int32) (z0 : MS) : Nat → Int32 → Int32 → Int32 → Option (Int32 × MS)
  | 0, _, _, _ => none
  | n + 1, l3, l4, l5 => (if ((1 : Int32) <<< ((z0.1 1) &&& 31)) ≤ l5 then (if l1 = (1 : Int32) then some (l3, z0) else (if l4 = (9999 : Int32) then some ((0 : Int32), z0) else some (l4, z0))) else f_X12_halves_L76 (f_X12_halves_L59 l1 l2 z0 n) l1 l2 l3 l4 l5 z0 FUEL (0 : Int32) (0 : Int32))
def f_X12_halves_L28 (l1 : Int32) (l3 : Int32) (l4 : Int32) (z0 : MS) : Nat → Int32 → Int32 → Option (Int32 × MS)
  | 0, _, _ => none
  | n + 1, l2, l5 => (if (z0.1 1) ≤ l5 then f_X12_halves_L59 l1 l2 z0 FUEL l3 l4 (1 : Int32) else grd (vi ((50 : Int32) + l5) 172) (bnd (l2 + (z0.2.2 10 (((50 : Int32) + l5)).toNatClampNeg)) (fun x18 => bnd (l5 + 1) (fun x19 => f_X12_halves_L28 l1 l3 l4 z0 n x18 x19))))
def f_X12_halves (v : MS) (p0 : Int32) : Option (Int32 × MS) := bnd (upd v.1 0 (0 : Int32), v.2) (fun y1 => (f_X12_isWhat y1 p0 (1 : Int32)).bind (fun q2 => (if q2.1 = 0 then some ((0 : Int32), q2.2) else f_X12_halves_L28 p0 (0 : Int32) (9999 : Int32) q2.2 FUEL (0 : Int32) (0 : Int32))))
set_option maxRecDepth 20000 in
theorem w_X12_halves_L76 {p : Program} {l : Launch} {e : Env} {s : State} {m : MethodId} {args : Array Value} {below : List Frame} {meth : Method} {c : Code} {D : va_G} {A : Nat → Prop} {dT : Nat → ClassId} {a : Nat → Nat} {res : Int32 × MS} {l1 : Int32} {l2 : Int32} {l3 : Int32} {l4 : Int32} {l5 : Int32} {z0 : MS} (C : Cx p s m args meth c cX12_halves 8 RX12 (some .int) D A dT) {k59 : Int32 → Int32 → Int32 → Option (Int32 × MS)} (hk59 : ∀ (l3 : Int32) (l4 : Int32) (l5 : Int32), k59 l3 l4 l5 = some res → WA p l e ({ frames := 2, cells := 0, slots := 0, locals := 44 } : Room) s m args below meth c (MQ below (QI D dT A ([wM dT a res.2]) res.1) args s 0 0 A) D A 0 0 8 59 ([wM dT a z0]) [(0, .ref (a 0)), (1, .int l1), (2, .int l2), (3, .int l3), (4, .int l4), (5, .int l5)] []) : ∀ (n : Nat) (l6 : Int32) (l7 : Int32), f_X12_halves_L76 k59 l1 l2 l3 l4 l5 z0 n l6 l7 = some res → WA p l e ({ frames := 2, cells := 0, slots := 0, locals := 44 } : Room) s m args below meth c (MQ below (QI D dT A ([wM dT a res.2]) res.1) args s 0 0 A) D A 0 0 8 76 ([wM dT a z0]) [(0, .ref (a 0)), (1, .int l1), (2, .int l2), (3, .int l3), (4, .int l4), (5, .int l5), (6, .int l6), (7, .int l7)] [] := by
  intro n
  induction n with
  | zero => intro l6 l7 hf; cases hf
  | succ n ih =>
    intro l6 l7 hf
    unfold f_X12_halves_L76 at hf
    refine wa_iload C 7 78 dX12_halves_76 rfl rfl ?_
    refine wa_aload_n C 0 79 dX12_halves_78 rfl rfl ?_
    refine wa_get C 82 0 0 1 dX12_halves_79 rfl iX12 q1450 rfl (Nat.le_of_ble_eq_true rfl) rfl rfl rfl ?_
    refine wa_icmp_ge C 114 85 dX12_halves_82 rfl rfl (fun c8 => ?_) (fun c8 => ?_)
    · replace hf := ite_t hf c8
      refine wa_iconst (v := 2) C 115 dX12_halves_114 rfl rfl ?_
      refine wa_iload C 6 117 dX12_halves_115 rfl rfl ?_
      refine wa_imul C 118 dX12_halves_117 rfl ?_
      refine wa_iload_n C 2 119 dX12_halves_118 rfl rfl ?_
      obtain ⟨q9, hq9, hf⟩ := bind_ex hf
      refine wa_callS0i (As := [.int ((2 : Int32) * l6), .int l2]) C 122 dX12_halves_119 rfl ks_X12_427 (c_X12_apart hq9) ⟨rfl, rfl⟩ ⟨Nat.le_of_ble_eq_true rfl, Nat.le_of_ble_eq_true rfl⟩ rfl rfl ⟨Nat.zero_le _, Nat.zero_le _⟩ (Nat.le_of_ble_eq_true rfl) ?_
      refine wa_iload C 4 124 dX12_halves_122 rfl rfl ?_
      refine wa_icmp_lt C 130 127 dX12_halves_124 rfl rfl (fun c10 => ?_) (fun c10 => ?_)
      · replace hf := ite_t hf c10
        refine wa_iload C 5 132 dX12_halves_130 rfl rfl ?_
        refine wa_istore_n (lv' := [(0, .ref (a 0)), (1, .int l1), (2, .int l2), (3, .int l5), (4, .int l4), (5, .int l5), (6, .int l6), (7, .int l7)]) C [1, 2, 3, 0, 4, 5, 6, 7] 133 dX12_halves_132 rfl (Nat.le_of_ble_eq_true rfl) rfl ?_
        refine wa_iconst (v := 2) C 134 dX12_halves_133 rfl rfl ?_
        refine wa_iload C 6 136 dX12_halves_134 rfl rfl ?_
        refine wa_imul C 137 dX12_halves_136 rfl ?_
        refine wa_iload_n C 2 138 dX12_halves_137 rfl rfl ?_
        obtain ⟨q11, hq11, hf⟩ := bind_ex hf
        refine wa_callS0i (As := [.int ((2 : Int32) * l6), .int l2]) C 141 dX12_halves_138 rfl ks_X12_427 (c_X12_apart hq11) ⟨rfl, rfl⟩ ⟨Nat.le_of_ble_eq_true rfl, Nat.le_of_ble_eq_true rfl⟩ rfl rfl ⟨Nat.zero_le _, Nat.zero_le _⟩ (Nat.le_of_ble_eq_true rfl) ?_
        refine wa_istore (lv' := [(0, .ref (a 0)), (1, .int l1), (2, .int l2), (3, .int l5), (4, .int q11), (5, .int l5), (6, .int l6), (7, .int l7)]) C [1, 2, 3, 4, 0, 5, 6, 7] 143 dX12_halves_141 rfl (Nat.le_of_ble_eq_true rfl) rfl ?_
        obtain ⟨x12, ex12, hf⟩ := bnd_ex hf
        refine wa_iinc (v := x12) (lv' := [(0, .ref (a 0)), (1, .int l1), (2, .int l2), (3, .int l5), (4, .int q11), (5, .int x12), (6, .int l6), (7, .int l7)]) C 5 [1, 2, 3, 4, 5, 0, 6, 7] 146 dX12_halves_143 rfl rfl (by rw [ex12]; rfl) (Nat.le_of_ble_eq_true rfl) rfl ?_
        refine wa_goto C 59 dX12_halves_146 rfl ?_
        refine wa_lv (lv' := [(0, .ref (a 0)), (1, .int l1), (2, .int l2), (3, .int l5), (4, .int q11), (5, .int x12)]) [0, 1, 2, 3, 4, 5] rfl ?_
        exact hk59 l5 q11 x12 hf
      · replace hf := ite_f hf c10
        refine wa_goto C 143 dX12_halves_127 rfl ?_
        obtain ⟨x13, ex13, hf⟩ := bnd_ex hf
        refine wa_iinc (v := x13) (lv' := [(0, .ref (a 0)), (1, .int l1), (2, .int l2), (3, .int l3), (4, .int l4), (5, .int x13), (6, .int l6), (7, .int l7)]) C 5 [1, 2, 3, 4, 5, 0, 6, 7] 146 dX12_halves_143 rfl rfl (by rw [ex13]; rfl) (Nat.le_of_ble_eq_true rfl) rfl ?_
        refine wa_goto C 59 dX12_halves_146 rfl ?_
        refine wa_lv (lv' := [(0, .ref (a 0)), (1, .int l1), (2, .int l2), (3, .int l3), (4, .int l4), (5, .int x13)]) [0, 1, 2, 3, 4, 5] rfl ?_
        exact hk59 l3 l4 x13 hf
    · replace hf := ite_f hf c8
      refine wa_iload C 6 87 dX12_halves_85 rfl rfl ?_
      refine wa_iload C 5 89 dX12_halves_87 rfl rfl ?_
      refine wa_iload C 7 91 dX12_halves_89 rfl rfl ?_
      refine wa_ishr C 92 dX12_halves_91 rfl ?_
      refine wa_iconst (v := 1) C 93 dX12_halves_92 rfl rfl ?_
      refine wa_iand C 94 dX12_halves_93 rfl ?_
      refine wa_aload_n C 0 95 dX12_halves_94 rfl rfl ?_
      refine wa_get C 98 0 0 34 dX12_halves_95 rfl iX12 q1483 rfl (Nat.le_of_ble_eq_true rfl) rfl rfl rfl ?_
      refine wa_bipush (v := 50) C 100 dX12_halves_98 rfl rfl ?_
      refine wa_iload C 7 102 dX12_halves_100 rfl rfl ?_
      refine wa_iadd C 103 dX12_halves_102 rfl ?_
      obtain ⟨g14, hf⟩ := grd_ex hf
      refine wa_iald C 104 0 10 dX12_halves_103 rfl rfl rfl (vi_in g14) ?_
      refine wa_imul C 105 dX12_halves_104 rfl ?_
      refine wa_iadd C 106 dX12_halves_105 rfl ?_
      obtain ⟨x15, ex15, hf⟩ := bnd_ex hf
      refine wa_topi ex15 ?_
      refine wa_istore (lv' := [(0, .ref (a 0)), (1, .int l1), (2, .int l2), (3, .int l3), (4, .int l4), (5, .int l5), (6, .int x15), (7, .int l7)]) C [1, 2, 3, 4, 5, 6, 0, 7] 108 dX12_halves_106 rfl (Nat.le_of_ble_eq_true rfl) rfl ?_
      obtain ⟨x16, ex16, hf⟩ := bnd_ex hf
      refine wa_iinc (v := x16) (lv' := [(0, .ref (a 0)), (1, .int l1), (2, .int l2), (3, .int l3), (4, .int l4), (5, .int l5), (6, .int x15), (7, .int x16)]) C 7 [1, 2, 3, 4, 5, 6, 7, 0] 111 dX12_halves_108 rfl rfl (by rw [ex16]; rfl) (Nat.le_of_ble_eq_true rfl) rfl ?_
      refine wa_goto C 76 dX12_halves_111 rfl ?_
      exact ih x15 x16 hf
set_option maxRecDepth 20000 in
theorem w_X12_halves_L59 {p : Program} {l : Launch} {e : Env} {s : State} {m : MethodId} {args : Array Value} {below : List Frame} {meth : Method} {c : Code} {D : va_G} {A : Nat → Prop} {dT : Nat → ClassId} {a : Nat → Nat} {res : Int32 × MS} {l1 : Int32} {l2 : Int32} {z0 : MS} (C : Cx p s m args meth c cX12_halves 8 RX12 (some .int) D A dT) : ∀ (n : Nat) (l3 : Int32) (l4 : Int32) (l5 : Int32), f_X12_halves_L59 l1 l2 z0 n l3 l4 l5 = some res → WA p l e ({ frames := 2, cells := 0, slots := 0, locals := 44 } : Room) s m args below meth c (MQ below (QI D dT A ([wM dT a res.2]) res.1) args s 0 0 A) D A 0 0 8 59 ([wM dT a z0]) [(0, .ref (a 0)), (1, .int l1), (2, .int l2), (3, .int l3), (4, .int l4), (5, .int l5)] [] := by
  intro n
  induction n with
  | zero => intro l3 l4 l5 hf; cases hf
  | succ n ih =>
    intro l3 l4 l5 hf
    unfold f_X12_halves_L59 at hf
    refine wa_iload C 5 61 dX12_halves_59 rfl rfl ?_
    refine wa_iconst (v := 1) C 62 dX12_halves_61 rfl rfl ?_
    refine wa_aload_n C 0 63 dX12_halves_62 rfl rfl ?_
    refine wa_get C 66 0 0 1 dX12_halves_63 rfl iX12 q1450 rfl (Nat.le_of_ble_eq_true rfl) rfl rfl rfl ?_
    refine wa_ishl C 67 dX12_halves_66 rfl ?_
    refine wa_icmp_ge C 149 70 dX12_halves_67 rfl rfl (fun c5 => ?_) (fun c5 => ?_)
    · replace hf := ite_t hf c5
      refine wa_iload_n C 1 150 dX12_halves_149 rfl rfl ?_
      refine wa_iconst (v := 1) C 151 dX12_halves_150 rfl rfl ?_
      refine wa_icmp_ne C 158 154 dX12_halves_151 rfl rfl (fun c6 => ?_) (fun c6 => ?_)
      · replace hf := ite_f hf c6
        refine wa_iload C 4 160 dX12_halves_158 rfl rfl ?_
        refine wa_sipush (v := 9999) C 163 dX12_halves_160 rfl rfl ?_
        refine wa_icmp_ne C 170 166 dX12_halves_163 rfl rfl (fun c7 => ?_) (fun c7 => ?_)
        · replace hf := ite_f hf c7
          refine wa_iload C 4 172 dX12_halves_170 rfl rfl ?_
          cases hf
          exact wa_iret C dX12_halves_172 rfl rfl
        · replace hf := ite_t hf c7
          refine wa_iconst (v := 0) C 167 dX12_halves_166 rfl rfl ?_
          refine wa_goto C 172 dX12_halves_167 rfl ?_
          cases hf
          exact wa_iret C dX12_halves_172 rfl rfl
      · replace hf := ite_t hf c6
        refine wa_iload_n C 3 155 dX12_halves_154 rfl rfl ?_
        refine wa_goto C 172 dX12_halves_155 rfl ?_
        cases hf
        exact wa_iret C dX12_halves_172 rfl rfl
    · replace hf := ite_f hf c5
      refine wa_iconst (v := 0) C 71 dX12_halves_70 rfl rfl ?_
      refine wa_istore (lv' := [(0, .ref (a 0)), (1, .int l1), (2, .int l2), (3, .int l3), (4, .int l4), (5, .int l5), (6, .int (0 : Int32))]) C [1, 2, 3, 4, 5, 6, 0] 73 dX12_halves_71 rfl (Nat.le_of_ble_eq_true rfl) rfl ?_
      refine wa_iconst (v := 0) C 74 dX12_halves_73 rfl rfl ?_
      refine wa_istore (lv' := [(0, .ref (a 0)), (1, .int l1), (2, .int l2), (3, .int l3), (4, .int l4), (5, .int l5), (6, .int (0 : Int32)), (7, .int (0 : Int32))]) C [1, 2, 3, 4, 5, 6, 7, 0] 76 dX12_halves_74 rfl (Nat.le_of_ble_eq_true rfl) rfl ?_
      exact w_X12_halves_L76 C ih FUEL (0 : Int32) (0 : Int32) hf
set_option maxRecDepth 20000 in
theorem w_X12_halves_L28 {p : Program} {l : Launch} {e : Env} {s : State} {m : MethodId} {args : Array Value} {below : List Frame} {meth : Method} {c : Code} {D : va_G} {A : Nat → Prop} {dT : Nat → ClassId} {a : Nat → Nat} {res : Int32 × MS} {l1 : Int32} {l3 : Int32} {l4 : Int32} {z0 : MS} (C : Cx p s m args meth c cX12_halves 8 RX12 (some .int) D A dT) : ∀ (n : Nat) (l2 : Int32) (l5 : Int32), f_X12_halves_L28 l1 l3 l4 z0 n l2 l5 = some res → WA p l e ({ frames := 2, cells := 0, slots := 0, locals := 44 } : Room) s m args below meth c (MQ below (QI D dT A ([wM dT a res.2]) res.1) args s 0 0 A) D A 0 0 8 28 ([wM dT a z0]) [(0, .ref (a 0)), (1, .int l1), (2, .int l2), (3, .int l3), (4, .int l4), (5, .int l5)] [] := by
  intro n
  induction n with
  | zero => intro l2 l5 hf; cases hf
  | succ n ih =>
    intro l2 l5 hf
    unfold f_X12_halves_L28 at hf
    refine wa_iload C 5 30 dX12_halves_28 rfl rfl ?_
    refine wa_aload_n C 0 31 dX12_halves_30 rfl rfl ?_
    refine wa_get C 34 0 0 1 dX12_halves_31 rfl iX12 q1450 rfl (Nat.le_of_ble_eq_true rfl) rfl rfl rfl ?_
    refine wa_icmp_ge C 56 37 dX12_halves_34 rfl rfl (fun c4 => ?_) (fun c4 => ?_)
    · replace hf := ite_t hf c4
      refine wa_iconst (v := 1) C 57 dX12_halves_56 rfl rfl ?_
      refine wa_istore (lv' := [(0, .ref (a 0)), (1, .int l1), (2, .int l2), (3, .int l3), (4, .int l4), (5, .int (1 : Int32))]) C [1, 2, 3, 4, 5, 0] 59 dX12_halves_57 rfl (Nat.le_of_ble_eq_true rfl) rfl ?_
      exact w_X12_halves_L59 C FUEL l3 l4 (1 : Int32) hf
    · replace hf := ite_f hf c4
      refine wa_iload_n C 2 38 dX12_halves_37 rfl rfl ?_
      refine wa_aload_n C 0 39 dX12_halves_38 rfl rfl ?_
      refine wa_get C 42 0 0 34 dX12_halves_39 rfl iX12 q1483 rfl (Nat.le_of_ble_eq_true rfl) rfl rfl rfl ?_
      refine wa_bipush (v := 50) C 44 dX12_halves_42 rfl rfl ?_
      refine wa_iload C 5 46 dX12_halves_44 rfl rfl ?_
      refine wa_iadd C 47 dX12_halves_46 rfl ?_
      obtain ⟨g17, hf⟩ := grd_ex hf
      refine wa_iald C 48 0 10 dX12_halves_47 rfl rfl rfl (vi_in g17) ?_
      refine wa_iadd C 49 dX12_halves_48 rfl ?_
      obtain ⟨x18, ex18, hf⟩ := bnd_ex hf
      refine wa_topi ex18 ?_
      refine wa_istore_n (lv' := [(0, .ref (a 0)), (1, .int l1), (2, .int x18), (3, .int l3), (4, .int l4), (5, .int l5)]) C [1, 2, 0, 3, 4, 5] 50 dX12_halves_49 rfl (Nat.le_of_ble_eq_true rfl) rfl ?_
      obtain ⟨x19, ex19, hf⟩ := bnd_ex hf
      refine wa_iinc (v := x19) (lv' := [(0, .ref (a 0)), (1, .int l1), (2, .int x18), (3, .int l3), (4, .int l4), (5, .int x19)]) C 5 [1, 2, 3, 4, 5, 0] 53 dX12_halves_50 rfl rfl (by rw [ex19]; rfl) (Nat.le_of_ble_eq_true rfl) rfl ?_
      refine wa_goto C 28 dX12_halves_53 rfl ?_
      exact ih x18 x19 hf
set_option maxRecDepth 20000 in
theorem c_X12_halves {l : Launch} {D : va_G} {dT : Nat → ClassId} {a : Nat → Nat} {v : MS} {p0 : Int32} {res : Int32 × MS} (hf : f_X12_halves v p0 = some res) : CTi l yX12_halves cX12_halves 8 (some .int) ({ frames := 2, cells := 0, slots := 0, locals := 44 } : Room) D dT [.ref (a 0), .int p0] ([wM dT a v]) ([wM dT a res.2]) res.1 := by
  refine CTi.of (by decide) (Nat.le_of_ble_eq_true rfl) rfl ?_
  intro p e s m args below meth c A C
  unfold f_X12_halves at hf
  refine wa_aload_n C 0 1 dX12_halves_0 rfl rfl ?_
  refine wa_iconst (v := 0) C 2 dX12_halves_1 rfl rfl ?_
  obtain ⟨y1, ey1, hf⟩ := bnd_ex hf
  refine wa_put (ws' := [wM dT a y1]) C 5 0 0 0 tyX12 dX12_halves_2 rfl iX12 tyX12_ok nmX12 q1449 rfl (Nat.le_of_ble_eq_true rfl) rfl rfl rfl rfl rfl (Nat.le_of_ble_eq_true rfl) (by rw [ey1]; rfl) ?_
  refine wa_aload_n C 0 6 dX12_halves_5 rfl rfl ?_
  refine wa_iload_n C 1 7 dX12_halves_6 rfl rfl ?_
  refine wa_iconst (v := 1) C 8 dX12_halves_7 rfl rfl ?_
  obtain ⟨q2, hq2, hf⟩ := bind_ex hf
  refine wa_callVAi (b1 := 0) (q1 := 0) (ci := 12) (As := [.int p0, .int (1 : Int32)]) C 11 dX12_halves_8 rfl kv_X12_371 (c_X12_isWhat hq2) ⟨rfl, rfl⟩ ⟨Nat.le_of_ble_eq_true rfl, Nat.le_of_ble_eq_true rfl⟩ rfl rfl rfl rfl rfl ⟨Nat.zero_le _, Nat.zero_le _⟩ (Nat.le_of_ble_eq_true rfl) ?_
  refine wa_if_ne C 16 14 dX12_halves_11 rfl rfl (fun c3 => ?_) (fun c3 => ?_)
  · replace hf := ite_f hf c3
    refine wa_iconst (v := 0) C 17 dX12_halves_16 rfl rfl ?_
    refine wa_istore_n (lv' := [(0, .ref (a 0)), (1, .int p0), (2, .int (0 : Int32))]) C [1, 2, 0] 18 dX12_halves_17 rfl (Nat.le_of_ble_eq_true rfl) rfl ?_
    refine wa_iconst (v := 0) C 19 dX12_halves_18 rfl rfl ?_
    refine wa_istore_n (lv' := [(0, .ref (a 0)), (1, .int p0), (2, .int (0 : Int32)), (3, .int (0 : Int32))]) C [1, 2, 3, 0] 20 dX12_halves_19 rfl (Nat.le_of_ble_eq_true rfl) rfl ?_
    refine wa_sipush (v := 9999) C 23 dX12_halves_20 rfl rfl ?_
    refine wa_istore (lv' := [(0, .ref (a 0)), (1, .int p0), (2, .int (0 : Int32)), (3, .int (0 : Int32)), (4, .int (9999 : Int32))]) C [1, 2, 3, 4, 0] 25 dX12_halves_23 rfl (Nat.le_of_ble_eq_true rfl) rfl ?_
    refine wa_iconst (v := 0) C 26 dX12_halves_25 rfl rfl ?_
    refine wa_istore (lv' := [(0, .ref (a 0)), (1, .int p0), (2, .int (0 : Int32)), (3, .int (0 : Int32)), (4, .int (9999 : Int32)), (5, .int (0 : Int32))]) C [1, 2, 3, 4, 5, 0] 28 dX12_halves_26 rfl (Nat.le_of_ble_eq_true rfl) rfl ?_
    exact w_X12_halves_L28 C FUEL (0 : Int32) (0 : Int32) hf
  · replace hf := ite_t hf c3
    refine wa_iconst (v := 0) C 15 dX12_halves_14 rfl rfl ?_
    cases hf
    exact wa_iret C dX12_halves_15 rfl rfl
def f_X12_chain_L57 (k30 : Int32 → Int32 → Option (Int32 × MS)) (l2 : Int32) (l3 : Int32) (l4 : Int32) (z0 : MS) : Nat → Int32 → Int32 → Option (Int32 × MS)
  | 0, _, _ => none
  | n + 1, l5, l6 => (if (z0.1 1) ≤ l6 then bnd (l4 + 1) (fun x10 => k30 l5 x10) else (if ((l3 >>> (l6 &&& 31)) &&& (1 : Int32)) = (1 : Int32) then (f_X12_friendsOf z0 l6).bind (fun q14 => bnd (l5 ||| q14) (fun x15 => bnd (l6 + 1) (fun x16 => f_X12_chain_L57 k30 l2 l3 l4 z0 n x15 x16))) else bnd (l5 ||| (0 : Int32)) (fun x12 => bnd (l6 + 1) (fun x13 => f_X12_chain_L57 k30 l2 l3 l4 z0 n x12 x13))))
def f_X12_chain_L30 (l2 : Int32) (z0 : MS) : Nat → Int32 → Int32 → Option (Int32 × MS)
  | 0, _, _ => none
  | n + 1, l3, l4 => (if (z0.1 1) < l4 then some ((-1 : Int32), z0) else (if ((l3 >>> (l2 &&& 31)) &&& (1 : Int32)) = (1 : Int32) then some (l4, z0) else f_X12_chain_L57 (f_X12_chain_L30 l2 z0 n) l2 l3 l4 z0 FUEL l3 (0 : Int32)))
def f_X12_chain (v : MS) (p0 : Int32) (p1 : Int32) : Option (Int32 × MS) := bnd (upd v.1 0 (0 : Int32), v.2) (fun y1 => (f_X12_isPerson y1 p0).bind (fun q2 => (if q2.1 = 0 then some ((0 : Int32), q2.2) else (f_X12_isPerson q2.2 p1).bind (fun q4 => (if q4.1 = 0 then some ((0 : Int32), q4.2) else bnd ((1 : Int32) <<< (p0 &&& 31)) (fun x6 => f_X12_chain_L30 p1 q4.2 FUEL x6 (0 : Int32)))))))
set_option maxRecDepth 20000 in
theorem w_X12_chain_L57 {p : Program} {l : Launch} {e : Env} {s : State} {m : MethodId} {args : Array Value} {below : List Frame} {meth : Method} {c : Code} {D : va_G} {A : Nat → Prop} {dT : Nat → ClassId} {a : Nat → Nat} {res : Int32 × MS} {l2 : Int32} {l3 : Int32} {l4 : Int32} {z0 : MS} (C : Cx p s m args meth c cX12_chain 7 RX12 (some .int) D A dT) {k30 : Int32 → Int32 → Option (Int32 × MS)} (hk30 : ∀ (l3 : Int32) (l4 : Int32), k30 l3 l4 = some res → WA p l e ({ frames := 2, cells := 0, slots := 0, locals := 43 } : Room) s m args below meth c (MQ below (QI D dT A ([wM dT a res.2]) res.1) args s 0 0 A) D A 0 0 7 30 ([wM dT a z0]) [(0, .ref (a 0)), (2, .int l2), (3, .int l3), (4, .int l4)] []) : ∀ (n : Nat) (l5 : Int32) (l6 : Int32), f_X12_chain_L57 k30 l2 l3 l4 z0 n l5 l6 = some res → WA p l e ({ frames := 2, cells := 0, slots := 0, locals := 43 } : Room) s m args below meth c (MQ below (QI D dT A ([wM dT a res.2]) res.1) args s 0 0 A) D A 0 0 7 57 ([wM dT a z0]) [(0, .ref (a 0)), (2, .int l2), (3, .int l3), (4, .int l4), (5, .int l5), (6, .int l6)] [] := by
  intro n
  induction n with
  | zero => intro l5 l6 hf; cases hf
  | succ n ih =>
    intro l5 l6 hf
    unfold f_X12_chain_L57 at hf
    refine wa_iload C 5 59 dX12_chain_57 rfl rfl ?_
    refine wa_aload_n C 0 60 dX12_chain_59 rfl rfl ?_
    refine wa_get C 63 0 0 1 dX12_chain_60 rfl iX12 q1450 rfl (Nat.le_of_ble_eq_true rfl) rfl rfl rfl ?_
    refine wa_icmp_ge C 97 66 dX12_chain_63 rfl rfl (fun c9 => ?_) (fun c9 => ?_)
    · replace hf := ite_t hf c9
      refine wa_iload C 4 99 dX12_chain_97 rfl rfl ?_
      refine wa_istore_n (lv' := [(0, .ref (a 0)), (2, .int l2), (3, .int l5), (4, .int l4), (5, .int l5), (6, .int l6)]) C [1, 2, 0, 3, 4, 5] 100 dX12_chain_99 rfl (Nat.le_of_ble_eq_true rfl) rfl ?_
      obtain ⟨x10, ex10, hf⟩ := bnd_ex hf
      refine wa_iinc (v := x10) (lv' := [(0, .ref (a 0)), (2, .int l2), (3, .int l5), (4, .int x10), (5, .int l5), (6, .int l6)]) C 3 [1, 2, 3, 0, 4, 5] 103 dX12_chain_100 rfl rfl (by rw [ex10]; rfl) (Nat.le_of_ble_eq_true rfl) rfl ?_
      refine wa_goto C 30 dX12_chain_103 rfl ?_
      refine wa_lv (lv' := [(0, .ref (a 0)), (2, .int l2), (3, .int l5), (4, .int x10)]) [0, 1, 2, 3] rfl ?_
      exact hk30 l5 x10 hf
    · replace hf := ite_f hf c9
      refine wa_iload C 4 68 dX12_chain_66 rfl rfl ?_
      refine wa_iload_n C 2 69 dX12_chain_68 rfl rfl ?_
      refine wa_iload C 5 71 dX12_chain_69 rfl rfl ?_
      refine wa_ishr C 72 dX12_chain_71 rfl ?_
      refine wa_iconst (v := 1) C 73 dX12_chain_72 rfl rfl ?_
      refine wa_iand C 74 dX12_chain_73 rfl ?_
      refine wa_iconst (v := 1) C 75 dX12_chain_74 rfl rfl ?_
      refine wa_icmp_ne C 87 78 dX12_chain_75 rfl rfl (fun c11 => ?_) (fun c11 => ?_)
      · replace hf := ite_f hf c11
        refine wa_iconst (v := 0) C 88 dX12_chain_87 rfl rfl ?_
        refine wa_ior C 89 dX12_chain_88 rfl ?_
        obtain ⟨x12, ex12, hf⟩ := bnd_ex hf
        refine wa_topi ex12 ?_
        refine wa_istore (lv' := [(0, .ref (a 0)), (2, .int l2), (3, .int l3), (4, .int l4), (5, .int x12), (6, .int l6)]) C [1, 2, 3, 4, 0, 5] 91 dX12_chain_89 rfl (Nat.le_of_ble_eq_true rfl) rfl ?_
        obtain ⟨x13, ex13, hf⟩ := bnd_ex hf
        refine wa_iinc (v := x13) (lv' := [(0, .ref (a 0)), (2, .int l2), (3, .int l3), (4, .int l4), (5, .int x12), (6, .int x13)]) C 5 [1, 2, 3, 4, 5, 0] 94 dX12_chain_91 rfl rfl (by rw [ex13]; rfl) (Nat.le_of_ble_eq_true rfl) rfl ?_
        refine wa_goto C 57 dX12_chain_94 rfl ?_
        exact ih x12 x13 hf
      · replace hf := ite_t hf c11
        refine wa_aload_n C 0 79 dX12_chain_78 rfl rfl ?_
        refine wa_iload C 5 81 dX12_chain_79 rfl rfl ?_
        obtain ⟨q14, hq14, hf⟩ := bind_ex hf
        refine wa_callVAi (b1 := 0) (q1 := 0) (ci := 12) (As := [.int l6]) C 84 dX12_chain_81 rfl kv_X12_377 (c_X12_friendsOf hq14) ⟨rfl, rfl⟩ ⟨Nat.le_of_ble_eq_true rfl, Nat.le_of_ble_eq_true rfl⟩ rfl rfl rfl rfl rfl ⟨Nat.zero_le _, Nat.zero_le _⟩ (Nat.le_of_ble_eq_true rfl) ?_
        refine wa_goto C 88 dX12_chain_84 rfl ?_
        refine wa_ior C 89 dX12_chain_88 rfl ?_
        obtain ⟨x15, ex15, hf⟩ := bnd_ex hf
        refine wa_topi ex15 ?_
        refine wa_istore (lv' := [(0, .ref (a 0)), (2, .int l2), (3, .int l3), (4, .int l4), (5, .int x15), (6, .int l6)]) C [1, 2, 3, 4, 0, 5] 91 dX12_chain_89 rfl (Nat.le_of_ble_eq_true rfl) rfl ?_
        obtain ⟨x16, ex16, hf⟩ := bnd_ex hf
        refine wa_iinc (v := x16) (lv' := [(0, .ref (a 0)), (2, .int l2), (3, .int l3), (4, .int l4), (5, .int x15), (6, .int x16)]) C 5 [1, 2, 3, 4, 5, 0] 94 dX12_chain_91 rfl rfl (by rw [ex16]; rfl) (Nat.le_of_ble_eq_true rfl) rfl ?_
        refine wa_goto C 57 dX12_chain_94 rfl ?_
        exact ih x15 x16 hf
set_option maxRecDepth 20000 in
theorem w_X12_chain_L30 {p : Program} {l : Launch} {e : Env} {s : State} {m : MethodId} {args : Array Value} {below : List Frame} {meth : Method} {c : Code} {D : va_G} {A : Nat → Prop} {dT : Nat → ClassId} {a : Nat → Nat} {res : Int32 × MS} {l2 : Int32} {z0 : MS} (C : Cx p s m args meth c cX12_chain 7 RX12 (some .int) D A dT) : ∀ (n : Nat) (l3 : Int32) (l4 : Int32), f_X12_chain_L30 l2 z0 n l3 l4 = some res → WA p l e ({ frames := 2, cells := 0, slots := 0, locals := 43 } : Room) s m args below meth c (MQ below (QI D dT A ([wM dT a res.2]) res.1) args s 0 0 A) D A 0 0 7 30 ([wM dT a z0]) [(0, .ref (a 0)), (2, .int l2), (3, .int l3), (4, .int l4)] [] := by
  intro n
  induction n with
  | zero => intro l3 l4 hf; cases hf
  | succ n ih =>
    intro l3 l4 hf
    unfold f_X12_chain_L30 at hf
    refine wa_iload C 3 32 dX12_chain_30 rfl rfl ?_
    refine wa_aload_n C 0 33 dX12_chain_32 rfl rfl ?_
    refine wa_get C 36 0 0 1 dX12_chain_33 rfl iX12 q1450 rfl (Nat.le_of_ble_eq_true rfl) rfl rfl rfl ?_
    refine wa_icmp_gt C 106 39 dX12_chain_36 rfl rfl (fun c7 => ?_) (fun c7 => ?_)
    · replace hf := ite_t hf c7
      refine wa_iconst (v := (-1)) C 107 dX12_chain_106 rfl rfl ?_
      cases hf
      exact wa_iret C dX12_chain_107 rfl rfl
    · replace hf := ite_f hf c7
      refine wa_iload_n C 2 40 dX12_chain_39 rfl rfl ?_
      refine wa_iload_n C 1 41 dX12_chain_40 rfl rfl ?_
      refine wa_ishr C 42 dX12_chain_41 rfl ?_
      refine wa_iconst (v := 1) C 43 dX12_chain_42 rfl rfl ?_
      refine wa_iand C 44 dX12_chain_43 rfl ?_
      refine wa_iconst (v := 1) C 45 dX12_chain_44 rfl rfl ?_
      refine wa_icmp_ne C 51 48 dX12_chain_45 rfl rfl (fun c8 => ?_) (fun c8 => ?_)
      · replace hf := ite_f hf c8
        refine wa_iload_n C 2 52 dX12_chain_51 rfl rfl ?_
        refine wa_istore (lv' := [(0, .ref (a 0)), (2, .int l2), (3, .int l3), (4, .int l4), (5, .int l3)]) C [1, 2, 3, 4, 0] 54 dX12_chain_52 rfl (Nat.le_of_ble_eq_true rfl) rfl ?_
        refine wa_iconst (v := 0) C 55 dX12_chain_54 rfl rfl ?_
        refine wa_istore (lv' := [(0, .ref (a 0)), (2, .int l2), (3, .int l3), (4, .int l4), (5, .int l3), (6, .int (0 : Int32))]) C [1, 2, 3, 4, 5, 0] 57 dX12_chain_55 rfl (Nat.le_of_ble_eq_true rfl) rfl ?_
        exact w_X12_chain_L57 C ih FUEL l3 (0 : Int32) hf
      · replace hf := ite_t hf c8
        refine wa_iload C 3 50 dX12_chain_48 rfl rfl ?_
        cases hf
        exact wa_iret C dX12_chain_50 rfl rfl
set_option maxRecDepth 20000 in
theorem c_X12_chain {l : Launch} {D : va_G} {dT : Nat → ClassId} {a : Nat → Nat} {v : MS} {p0 : Int32} {p1 : Int32} {res : Int32 × MS} (hf : f_X12_chain v p0 p1 = some res) : CTi l yX12_chain cX12_chain 7 (some .int) ({ frames := 2, cells := 0, slots := 0, locals := 43 } : Room) D dT [.ref (a 0), .int p0, .int p1] ([wM dT a v]) ([wM dT a res.2]) res.1 := by
  refine CTi.of (by decide) (Nat.le_of_ble_eq_true rfl) rfl ?_
  intro p e s m args below meth c A C
  unfold f_X12_chain at hf
  refine wa_aload_n C 0 1 dX12_chain_0 rfl rfl ?_
  refine wa_iconst (v := 0) C 2 dX12_chain_1 rfl rfl ?_
  obtain ⟨y1, ey1, hf⟩ := bnd_ex hf
  refine wa_put (ws' := [wM dT a y1]) C 5 0 0 0 tyX12 dX12_chain_2 rfl iX12 tyX12_ok nmX12 q1449 rfl (Nat.le_of_ble_eq_true rfl) rfl rfl rfl rfl rfl (Nat.le_of_ble_eq_true rfl) (by rw [ey1]; rfl) ?_
  refine wa_aload_n C 0 6 dX12_chain_5 rfl rfl ?_
  refine wa_iload_n C 1 7 dX12_chain_6 rfl rfl ?_
  obtain ⟨q2, hq2, hf⟩ := bind_ex hf
  refine wa_callVAi (b1 := 0) (q1 := 0) (ci := 12) (As := [.int p0]) C 10 dX12_chain_7 rfl kv_X12_368 (c_X12_isPerson hq2) ⟨rfl, rfl⟩ ⟨Nat.le_of_ble_eq_true rfl, Nat.le_of_ble_eq_true rfl⟩ rfl rfl rfl rfl rfl ⟨Nat.zero_le _, Nat.zero_le _⟩ (Nat.le_of_ble_eq_true rfl) ?_
  refine wa_if_eq C 21 13 dX12_chain_10 rfl rfl (fun c3 => ?_) (fun c3 => ?_)
  · replace hf := ite_t hf c3
    refine wa_iconst (v := 0) C 22 dX12_chain_21 rfl rfl ?_
    cases hf
    exact wa_iret C dX12_chain_22 rfl rfl
  · replace hf := ite_f hf c3
    refine wa_aload_n C 0 14 dX12_chain_13 rfl rfl ?_
    refine wa_iload_n C 2 15 dX12_chain_14 rfl rfl ?_
    obtain ⟨q4, hq4, hf⟩ := bind_ex hf
    refine wa_callVAi (b1 := 0) (q1 := 0) (ci := 12) (As := [.int p1]) C 18 dX12_chain_15 rfl kv_X12_368 (c_X12_isPerson hq4) ⟨rfl, rfl⟩ ⟨Nat.le_of_ble_eq_true rfl, Nat.le_of_ble_eq_true rfl⟩ rfl rfl rfl rfl rfl ⟨Nat.zero_le _, Nat.zero_le _⟩ (Nat.le_of_ble_eq_true rfl) ?_
    refine wa_if_ne C 23 21 dX12_chain_18 rfl rfl (fun c5 => ?_) (fun c5 => ?_)
    · replace hf := ite_f hf c5
      refine wa_iconst (v := 1) C 24 dX12_chain_23 rfl rfl ?_
      refine wa_iload_n C 1 25 dX12_chain_24 rfl rfl ?_
      refine wa_ishl C 26 dX12_chain_25 rfl ?_
      obtain ⟨x6, ex6, hf⟩ := bnd_ex hf
      refine wa_topi ex6 ?_
      refine wa_istore_n (lv' := [(0, .ref (a 0)), (1, .int p0), (2, .int p1), (3, .int x6)]) C [1, 2, 3, 0] 27 dX12_chain_26 rfl (Nat.le_of_ble_eq_true rfl) rfl ?_
      refine wa_iconst (v := 0) C 28 dX12_chain_27 rfl rfl ?_
      refine wa_istore (lv' := [(0, .ref (a 0)), (1, .int p0), (2, .int p1), (3, .int x6), (4, .int (0 : Int32))]) C [1, 2, 3, 4, 0] 30 dX12_chain_28 rfl (Nat.le_of_ble_eq_true rfl) rfl ?_
      refine wa_lv (lv' := [(0, .ref (a 0)), (2, .int p1), (3, .int x6), (4, .int (0 : Int32))]) [0, 2, 3, 4] rfl ?_
      exact w_X12_chain_L30 C FUEL x6 (0 : Int32) hf
    · replace hf := ite_t hf c5
      refine wa_iconst (v := 0) C 22 dX12_chain_21 rfl rfl ?_
      cases hf
      exact wa_iret C dX12_chain_22 rfl rfl
def f_X12_see_J44 (z0 : MS) : Option (Int32 × MS) := (f_X12_refuses z0 (2 : Int32)).bind (fun q5 => some (q5.1, q5.2))
def f_X12_see (v : MS) (p0 : Int32) (p1 : Int32) (p2 : Int32) : Option (Int32 × MS) := bnd (upd v.1 0 (0 : Int32), v.2) (fun y1 => (f_X12_isPerson y1 p0).bind (fun q2 => (if q2.1 = 0 then some ((0 : Int32), q2.2) else (if (q2.2.1 48) = (8 : Int32) then f_X12_see_J44 q2.2 else (f_X12_within p1 (0 : Int32) (20 : Int32)).bind (fun q6 => (if q6 = 0 then f_X12_see_J44 q2.2 else (f_X12_within p2 (1 : Int32) (12 : Int32)).bind (fun q8 => (if q8 = 0 then f_X12_see_J44 q2.2 else grd (vi ((3 : Int32) * (q2.2.1 48)) 24) (bnd (q2.2.1, q2.2.2.1, uA q2.2.2.2 20 (((3 : Int32) * (q2.2.1 48))).toNatClampNeg p0) (fun y11 => grd (vi (((3 : Int32) * (y11.1 48)) + (1 : Int32)) 24) (bnd (y11.1, y11.2.1, uA y11.2.2 20 ((((3 : Int32) * (y11.1 48)) + (1 : Int32))).toNatClampNeg p1) (fun y13 => grd (vi (((3 : Int32) * (y13.1 48)) + (2 : Int32)) 24) (bnd (y13.1, y13.2.1, uA y13.2.2 20 ((((3 : Int32) * (y13.1 48)) + (2 : Int32))).toNatClampNeg p2) (fun y15 => bnd (upd y15.1 48 ((y15.1 48) + (1 : Int32)), y15.2) (fun y16 => some ((y16.1 48), y16))))))))))))))))
set_option maxRecDepth 20000 in
theorem w_X12_see_J44 {p : Program} {l : Launch} {e : Env} {s : State} {m : MethodId} {args : Array Value} {below : List Frame} {meth : Method} {c : Code} {D : va_G} {A : Nat → Prop} {dT : Nat → ClassId} {a : Nat → Nat} {res : Int32 × MS} (C : Cx p s m args meth c cX12_see 4 RX12 (some .int) D A dT) : ∀ (z0 : MS), f_X12_see_J44 z0 = some res → WA p l e ({ frames := 2, cells := 0, slots := 0, locals := 43 } : Room) s m args below meth c (MQ below (QI D dT A ([wM dT a res.2]) res.1) args s 0 0 A) D A 0 0 4 44 ([wM dT a z0]) [(0, .ref (a 0))] [] := by
  intro z0 hf
  unfold f_X12_see_J44 at hf
  refine wa_aload_n C 0 45 dX12_see_44 rfl rfl ?_
  refine wa_iconst (v := 2) C 46 dX12_see_45 rfl rfl ?_
  obtain ⟨q5, hq5, hf⟩ := bind_ex hf
  refine wa_callVAi (b1 := 0) (q1 := 0) (ci := 12) (As := [.int (2 : Int32)]) C 49 dX12_see_46 rfl kv_X12_386 (c_X12_refuses hq5) ⟨rfl, rfl⟩ ⟨Nat.le_of_ble_eq_true rfl, Nat.le_of_ble_eq_true rfl⟩ rfl rfl rfl rfl rfl ⟨Nat.zero_le _, Nat.zero_le _⟩ (Nat.le_of_ble_eq_true rfl) ?_
  cases hf
  exact wa_iret C dX12_see_49 rfl rfl
set_option maxRecDepth 20000 in
theorem c_X12_see {l : Launch} {D : va_G} {dT : Nat → ClassId} {a : Nat → Nat} {v : MS} {p0 : Int32} {p1 : Int32} {p2 : Int32} {res : Int32 × MS} (hf : f_X12_see v p0 p1 p2 = some res) : CTi l yX12_see cX12_see 4 (some .int) ({ frames := 2, cells := 0, slots := 0, locals := 43 } : Room) D dT [.ref (a 0), .int p0, .int p1, .int p2] ([wM dT a v]) ([wM dT a res.2]) res.1 := by
  refine CTi.of (by decide) (Nat.le_of_ble_eq_true rfl) rfl ?_
  intro p e s m args below meth c A C
  unfold f_X12_see at hf
  refine wa_aload_n C 0 1 dX12_see_0 rfl rfl ?_
  refine wa_iconst (v := 0) C 2 dX12_see_1 rfl rfl ?_
  obtain ⟨y1, ey1, hf⟩ := bnd_ex hf
  refine wa_put (ws' := [wM dT a y1]) C 5 0 0 0 tyX12 dX12_see_2 rfl iX12 tyX12_ok nmX12 q1449 rfl (Nat.le_of_ble_eq_true rfl) rfl rfl rfl rfl rfl (Nat.le_of_ble_eq_true rfl) (by rw [ey1]; rfl) ?_
  refine wa_aload_n C 0 6 dX12_see_5 rfl rfl ?_
  refine wa_iload_n C 1 7 dX12_see_6 rfl rfl ?_
  obtain ⟨q2, hq2, hf⟩ := bind_ex hf
  refine wa_callVAi (b1 := 0) (q1 := 0) (ci := 12) (As := [.int p0]) C 10 dX12_see_7 rfl kv_X12_368 (c_X12_isPerson hq2) ⟨rfl, rfl⟩ ⟨Nat.le_of_ble_eq_true rfl, Nat.le_of_ble_eq_true rfl⟩ rfl rfl rfl rfl rfl ⟨Nat.zero_le _, Nat.zero_le _⟩ (Nat.le_of_ble_eq_true rfl) ?_
  refine wa_if_ne C 15 13 dX12_see_10 rfl rfl (fun c3 => ?_) (fun c3 => ?_)
  · replace hf := ite_f hf c3
    refine wa_aload_n C 0 16 dX12_see_15 rfl rfl ?_
    refine wa_get C 19 0 0 48 dX12_see_16 rfl iX12 q1497 rfl (Nat.le_of_ble_eq_true rfl) rfl rfl rfl ?_
    refine wa_bipush (v := 8) C 21 dX12_see_19 rfl rfl ?_
    refine wa_icmp_eq C 44 24 dX12_see_21 rfl rfl (fun c4 => ?_) (fun c4 => ?_)
    · replace hf := ite_t hf c4
      refine wa_lv (lv' := [(0, .ref (a 0))]) [0] rfl ?_
      exact w_X12_see_J44 C q2.2 hf
    · replace hf := ite_f hf c4
      refine wa_iload_n C 2 25 dX12_see_24 rfl rfl ?_
      refine wa_iconst (v := 0) C 26 dX12_see_25 rfl rfl ?_
      refine wa_bipush (v := 20) C 28 dX12_see_26 rfl rfl ?_
      obtain ⟨q6, hq6, hf⟩ := bind_ex hf
      refine wa_callS0i (As := [.int p1, .int (0 : Int32), .int (20 : Int32)]) C 31 dX12_see_28 rfl ks_X12_346 (c_X12_within hq6) ⟨rfl, rfl⟩ ⟨Nat.le_of_ble_eq_true rfl, Nat.le_of_ble_eq_true rfl⟩ rfl rfl ⟨Nat.zero_le _, Nat.zero_le _⟩ (Nat.le_of_ble_eq_true rfl) ?_
      refine wa_if_eq C 44 34 dX12_see_31 rfl rfl (fun c7 => ?_) (fun c7 => ?_)
      · replace hf := ite_t hf c7
        refine wa_lv (lv' := [(0, .ref (a 0))]) [0] rfl ?_
        exact w_X12_see_J44 C q2.2 hf
      · replace hf := ite_f hf c7
        refine wa_iload_n C 3 35 dX12_see_34 rfl rfl ?_
        refine wa_iconst (v := 1) C 36 dX12_see_35 rfl rfl ?_
        refine wa_bipush (v := 12) C 38 dX12_see_36 rfl rfl ?_
        obtain ⟨q8, hq8, hf⟩ := bind_ex hf
        refine wa_callS0i (As := [.int p2, .int (1 : Int32), .int (12 : Int32)]) C 41 dX12_see_38 rfl ks_X12_346 (c_X12_within hq8) ⟨rfl, rfl⟩ ⟨Nat.le_of_ble_eq_true rfl, Nat.le_of_ble_eq_true rfl⟩ rfl rfl ⟨Nat.zero_le _, Nat.zero_le _⟩ (Nat.le_of_ble_eq_true rfl) ?_
        refine wa_if_ne C 50 44 dX12_see_41 rfl rfl (fun c9 => ?_) (fun c9 => ?_)
        · replace hf := ite_f hf c9
          refine wa_aload_n C 0 51 dX12_see_50 rfl rfl ?_
          refine wa_get C 54 0 0 49 dX12_see_51 rfl iX12 q1498 rfl (Nat.le_of_ble_eq_true rfl) rfl rfl rfl ?_
          refine wa_iconst (v := 3) C 55 dX12_see_54 rfl rfl ?_
          refine wa_aload_n C 0 56 dX12_see_55 rfl rfl ?_
          refine wa_get C 59 0 0 48 dX12_see_56 rfl iX12 q1497 rfl (Nat.le_of_ble_eq_true rfl) rfl rfl rfl ?_
          refine wa_imul C 60 dX12_see_59 rfl ?_
          refine wa_iload_n C 1 61 dX12_see_60 rfl rfl ?_
          obtain ⟨g10, hf⟩ := grd_ex hf
          obtain ⟨y11, ey11, hf⟩ := bnd_ex hf
          refine wa_iast (ws' := [wM dT a y11]) C 62 0 20 dX12_see_61 rfl rfl rfl (vi_in g10) (by rw [ey11]; rfl) ?_
          refine wa_aload_n C 0 63 dX12_see_62 rfl rfl ?_
          refine wa_get C 66 0 0 49 dX12_see_63 rfl iX12 q1498 rfl (Nat.le_of_ble_eq_true rfl) rfl rfl rfl ?_
          refine wa_iconst (v := 3) C 67 dX12_see_66 rfl rfl ?_
          refine wa_aload_n C 0 68 dX12_see_67 rfl rfl ?_
          refine wa_get C 71 0 0 48 dX12_see_68 rfl iX12 q1497 rfl (Nat.le_of_ble_eq_true rfl) rfl rfl rfl ?_
          refine wa_imul C 72 dX12_see_71 rfl ?_
          refine wa_iconst (v := 1) C 73 dX12_see_72 rfl rfl ?_
          refine wa_iadd C 74 dX12_see_73 rfl ?_
          refine wa_iload_n C 2 75 dX12_see_74 rfl rfl ?_
          obtain ⟨g12, hf⟩ := grd_ex hf
          obtain ⟨y13, ey13, hf⟩ := bnd_ex hf
          refine wa_iast (ws' := [wM dT a y13]) C 76 0 20 dX12_see_75 rfl rfl rfl (vi_in g12) (by rw [ey13]; rfl) ?_
          refine wa_aload_n C 0 77 dX12_see_76 rfl rfl ?_
          refine wa_get C 80 0 0 49 dX12_see_77 rfl iX12 q1498 rfl (Nat.le_of_ble_eq_true rfl) rfl rfl rfl ?_
          refine wa_iconst (v := 3) C 81 dX12_see_80 rfl rfl ?_
          refine wa_aload_n C 0 82 dX12_see_81 rfl rfl ?_
          refine wa_get C 85 0 0 48 dX12_see_82 rfl iX12 q1497 rfl (Nat.le_of_ble_eq_true rfl) rfl rfl rfl ?_
          refine wa_imul C 86 dX12_see_85 rfl ?_
          refine wa_iconst (v := 2) C 87 dX12_see_86 rfl rfl ?_
          refine wa_iadd C 88 dX12_see_87 rfl ?_
          refine wa_iload_n C 3 89 dX12_see_88 rfl rfl ?_
          obtain ⟨g14, hf⟩ := grd_ex hf
          obtain ⟨y15, ey15, hf⟩ := bnd_ex hf
          refine wa_iast (ws' := [wM dT a y15]) C 90 0 20 dX12_see_89 rfl rfl rfl (vi_in g14) (by rw [ey15]; rfl) ?_
          refine wa_aload_n C 0 91 dX12_see_90 rfl rfl ?_
          refine wa_dup C 92 dX12_see_91 rfl rfl ?_
          refine wa_get C 95 0 0 48 dX12_see_92 rfl iX12 q1497 rfl (Nat.le_of_ble_eq_true rfl) rfl rfl rfl ?_
          refine wa_iconst (v := 1) C 96 dX12_see_95 rfl rfl ?_
          refine wa_iadd C 97 dX12_see_96 rfl ?_
          obtain ⟨y16, ey16, hf⟩ := bnd_ex hf
          refine wa_put (ws' := [wM dT a y16]) C 100 0 0 48 tyX12 dX12_see_97 rfl iX12 tyX12_ok nmX12 q1497 rfl (Nat.le_of_ble_eq_true rfl) rfl rfl rfl rfl rfl (Nat.le_of_ble_eq_true rfl) (by rw [ey16]; rfl) ?_
          refine wa_aload_n C 0 101 dX12_see_100 rfl rfl ?_
          refine wa_get C 104 0 0 48 dX12_see_101 rfl iX12 q1497 rfl (Nat.le_of_ble_eq_true rfl) rfl rfl rfl ?_
          cases hf
          exact wa_iret C dX12_see_104 rfl rfl
        · replace hf := ite_t hf c9
          refine wa_lv (lv' := [(0, .ref (a 0))]) [0] rfl ?_
          exact w_X12_see_J44 C q2.2 hf
  · replace hf := ite_t hf c3
    refine wa_iconst (v := 0) C 14 dX12_see_13 rfl rfl ?_
    cases hf
    exact wa_iret C dX12_see_14 rfl rfl
