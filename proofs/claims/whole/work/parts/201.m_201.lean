def f_X12_wrong (v : MS) (p0 : Int32) : Option (MS) := (if (v.1 9) = 0 then bnd (upd v.1 9 p0, v.2) (fun y2 => bnd (upd y2.1 10 (y2.1 15), y2.2) (fun y3 => some (y3))) else some (v))
set_option maxRecDepth 20000 in
theorem c_X12_wrong {l : Launch} {D : va_G} {dT : Nat → ClassId} {a : Nat → Nat} {v : MS} {p0 : Int32} {res : MS} (hf : f_X12_wrong v p0 = some res) : CTv l yX12_wrong cX12_wrong 2 none ({ frames := 0, cells := 0, slots := 0, locals := 0 } : Room) D dT [.ref (a 0), .int p0] ([wM dT a v]) ([wM dT a res]) := by
  refine CTv.of (by decide) (Nat.le_of_ble_eq_true rfl) rfl ?_
  intro p e s m args below meth c A C
  unfold f_X12_wrong at hf
  refine wa_aload_n C 0 1 dX12_wrong_0 rfl rfl ?_
  refine wa_get C 4 0 0 9 dX12_wrong_1 rfl iX12 q1458 rfl (Nat.le_of_ble_eq_true rfl) rfl rfl rfl ?_
  refine wa_if_eq C 8 7 dX12_wrong_4 rfl rfl (fun c1 => ?_) (fun c1 => ?_)
  · replace hf := ite_t hf c1
    refine wa_aload_n C 0 9 dX12_wrong_8 rfl rfl ?_
    refine wa_iload_n C 1 10 dX12_wrong_9 rfl rfl ?_
    obtain ⟨y2, ey2, hf⟩ := bnd_ex hf
    refine wa_put (ws' := [wM dT a y2]) C 13 0 0 9 tyX12 dX12_wrong_10 rfl iX12 tyX12_ok nmX12 q1458 rfl (Nat.le_of_ble_eq_true rfl) rfl rfl rfl rfl rfl (Nat.le_of_ble_eq_true rfl) (by rw [ey2]; rfl) ?_
    refine wa_aload_n C 0 14 dX12_wrong_13 rfl rfl ?_
    refine wa_aload_n C 0 15 dX12_wrong_14 rfl rfl ?_
    refine wa_get C 18 0 0 15 dX12_wrong_15 rfl iX12 q1464 rfl (Nat.le_of_ble_eq_true rfl) rfl rfl rfl ?_
    obtain ⟨y3, ey3, hf⟩ := bnd_ex hf
    refine wa_put (ws' := [wM dT a y3]) C 21 0 0 10 tyX12 dX12_wrong_18 rfl iX12 tyX12_ok nmX12 q1459 rfl (Nat.le_of_ble_eq_true rfl) rfl rfl rfl rfl rfl (Nat.le_of_ble_eq_true rfl) (by rw [ey3]; rfl) ?_
    cases hf
    exact wa_vret C dX12_wrong_21 rfl
  · replace hf := ite_f hf c1
    cases hf
    exact wa_vret C dX12_wrong_7 rfl
def f_X12_isGood (v : MS) : Option (Int32) := (if (v.1 9) = 0 then some ((1 : Int32)) else some ((0 : Int32)))
set_option maxRecDepth 20000 in
theorem c_X12_isGood {l : Launch} {D : va_G} {dT : Nat → ClassId} {a : Nat → Nat} {v : MS} {res : Int32} (hf : f_X12_isGood v = some res) : CTi l yX12_isGood cX12_isGood 1 (some .boolean) ({ frames := 0, cells := 0, slots := 0, locals := 0 } : Room) D dT [.ref (a 0)] ([wM dT a v]) ([wM dT a v]) res := by
  refine CTi.of (by decide) (Nat.le_of_ble_eq_true rfl) rfl ?_
  intro p e s m args below meth c A C
  unfold f_X12_isGood at hf
  refine wa_aload_n C 0 1 dX12_isGood_0 rfl rfl ?_
  refine wa_get C 4 0 0 9 dX12_isGood_1 rfl iX12 q1458 rfl (Nat.le_of_ble_eq_true rfl) rfl rfl rfl ?_
  refine wa_if_ne C 11 7 dX12_isGood_4 rfl rfl (fun c1 => ?_) (fun c1 => ?_)
  · replace hf := ite_f hf c1
    refine wa_iconst (v := 0) C 12 dX12_isGood_11 rfl rfl ?_
    cases hf
    exact wa_zret C dX12_isGood_12 rfl rfl rfl
  · replace hf := ite_t hf c1
    refine wa_iconst (v := 1) C 8 dX12_isGood_7 rfl rfl ?_
    refine wa_goto C 12 dX12_isGood_8 rfl ?_
    cases hf
    exact wa_zret C dX12_isGood_12 rfl rfl rfl
def f_X12_isSign (v : MS) (p0 : Int32) : Option (Int32) := (if (v.1 14) = (3 : Int32) then (if (v.1 18) = p0 then some ((1 : Int32)) else some ((0 : Int32))) else some ((0 : Int32)))
set_option maxRecDepth 20000 in
theorem c_X12_isSign {l : Launch} {D : va_G} {dT : Nat → ClassId} {a : Nat → Nat} {v : MS} {p0 : Int32} {res : Int32} (hf : f_X12_isSign v p0 = some res) : CTi l yX12_isSign cX12_isSign 2 (some .boolean) ({ frames := 0, cells := 0, slots := 0, locals := 0 } : Room) D dT [.ref (a 0), .int p0] ([wM dT a v]) ([wM dT a v]) res := by
  refine CTi.of (by decide) (Nat.le_of_ble_eq_true rfl) rfl ?_
  intro p e s m args below meth c A C
  unfold f_X12_isSign at hf
  refine wa_aload_n C 0 1 dX12_isSign_0 rfl rfl ?_
  refine wa_get C 4 0 0 14 dX12_isSign_1 rfl iX12 q1463 rfl (Nat.le_of_ble_eq_true rfl) rfl rfl rfl ?_
  refine wa_iconst (v := 3) C 5 dX12_isSign_4 rfl rfl ?_
  refine wa_icmp_ne C 20 8 dX12_isSign_5 rfl rfl (fun c1 => ?_) (fun c1 => ?_)
  · replace hf := ite_f hf c1
    refine wa_iconst (v := 0) C 21 dX12_isSign_20 rfl rfl ?_
    cases hf
    exact wa_zret C dX12_isSign_21 rfl rfl rfl
  · replace hf := ite_t hf c1
    refine wa_aload_n C 0 9 dX12_isSign_8 rfl rfl ?_
    refine wa_get C 12 0 0 18 dX12_isSign_9 rfl iX12 q1467 rfl (Nat.le_of_ble_eq_true rfl) rfl rfl rfl ?_
    refine wa_iload_n C 1 13 dX12_isSign_12 rfl rfl ?_
    refine wa_icmp_ne C 20 16 dX12_isSign_13 rfl rfl (fun c2 => ?_) (fun c2 => ?_)
    · replace hf := ite_f hf c2
      refine wa_iconst (v := 0) C 21 dX12_isSign_20 rfl rfl ?_
      cases hf
      exact wa_zret C dX12_isSign_21 rfl rfl rfl
    · replace hf := ite_t hf c2
      refine wa_iconst (v := 1) C 17 dX12_isSign_16 rfl rfl ?_
      refine wa_goto C 21 dX12_isSign_17 rfl ?_
      cases hf
      exact wa_zret C dX12_isSign_21 rfl rfl rfl
theorem kv_X12_155 : KV RX12 155 yX12_isGood cX12_isGood 1 (some .boolean) 0 := KV.mk q1662 q1664 qs50 q13 q1665 ⟨by decide, by decide, by decide +kernel⟩
theorem kv_X12_159 : KV RX12 159 yX12_takes cX12_takes 2 none 0 := KV.mk q1648 q1650 qs48 q13 q1651 ⟨by decide, by decide, by decide +kernel⟩
theorem kv_X12_162 : KV RX12 162 yX12_wrong cX12_wrong 2 none 1 := KV.mk q1685 q1687 qs54 q13 q1688 ⟨by decide, by decide, by decide +kernel⟩
def f_X12_need (v : MS) (p0 : Int32) : Option (MS) := (f_X12_isGood v).bind (fun q1 => (if q1 = 0 then some (v) else (if p0 = 0 then (f_X12_wrong v (1 : Int32)).bind (fun q4 => some (q4)) else (f_X12_takes v).bind (fun q5 => some (q5)))))
set_option maxRecDepth 20000 in
theorem c_X12_need {l : Launch} {D : va_G} {dT : Nat → ClassId} {a : Nat → Nat} {v : MS} {p0 : Int32} {res : MS} (hf : f_X12_need v p0 = some res) : CTv l yX12_need cX12_need 2 none ({ frames := 2, cells := 0, slots := 0, locals := 42 } : Room) D dT [.ref (a 0), .int p0] ([wM dT a v]) ([wM dT a res]) := by
  refine CTv.of (by decide) (Nat.le_of_ble_eq_true rfl) rfl ?_
  intro p e s m args below meth c A C
  unfold f_X12_need at hf
  refine wa_aload_n C 0 1 dX12_need_0 rfl rfl ?_
  obtain ⟨q1, hq1, hf⟩ := bind_ex hf
  refine wa_callVAi (b1 := 0) (q1 := 0) (ci := 12) (As := []) C 4 dX12_need_1 rfl kv_X12_155 (c_X12_isGood hq1) ⟨rfl, rfl⟩ ⟨Nat.le_of_ble_eq_true rfl, Nat.le_of_ble_eq_true rfl⟩ rfl rfl rfl rfl rfl ⟨Nat.zero_le _, Nat.zero_le _⟩ (Nat.le_of_ble_eq_true rfl) ?_
  refine wa_if_ne C 8 7 dX12_need_4 rfl rfl (fun c2 => ?_) (fun c2 => ?_)
  · replace hf := ite_f hf c2
    refine wa_iload_n C 1 9 dX12_need_8 rfl rfl ?_
    refine wa_if_eq C 19 12 dX12_need_9 rfl rfl (fun c3 => ?_) (fun c3 => ?_)
    · replace hf := ite_t hf c3
      refine wa_aload_n C 0 20 dX12_need_19 rfl rfl ?_
      refine wa_iconst (v := 1) C 21 dX12_need_20 rfl rfl ?_
      obtain ⟨q4, hq4, hf⟩ := bind_ex hf
      refine wa_callVAv (b1 := 0) (q1 := 0) (ci := 12) (As := [.int (1 : Int32)]) C 24 dX12_need_21 rfl kv_X12_162 (c_X12_wrong hq4) ⟨rfl, rfl⟩ ⟨Nat.le_of_ble_eq_true rfl, Nat.le_of_ble_eq_true rfl⟩ rfl rfl rfl rfl rfl ⟨Nat.zero_le _, Nat.zero_le _⟩ (Nat.le_of_ble_eq_true rfl) ?_
      cases hf
      exact wa_vret C dX12_need_24 rfl
    · replace hf := ite_f hf c3
      refine wa_aload_n C 0 13 dX12_need_12 rfl rfl ?_
      obtain ⟨q5, hq5, hf⟩ := bind_ex hf
      refine wa_callVAv (b1 := 0) (q1 := 0) (ci := 12) (As := []) C 16 dX12_need_13 rfl kv_X12_159 (c_X12_takes hq5) ⟨rfl, rfl⟩ ⟨Nat.le_of_ble_eq_true rfl, Nat.le_of_ble_eq_true rfl⟩ rfl rfl rfl rfl rfl ⟨Nat.zero_le _, Nat.zero_le _⟩ (Nat.le_of_ble_eq_true rfl) ?_
      refine wa_goto C 24 dX12_need_16 rfl ?_
      cases hf
      exact wa_vret C dX12_need_24 rfl
  · replace hf := ite_t hf c2
    cases hf
    exact wa_vret C dX12_need_7 rfl
def f_X12_number_J54 (z0 : MS) : Option (Int32 × MS) := bnd (z0.1 17) (fun x6 => (f_X12_isGood z0).bind (fun q7 => (if q7 = 0 then some (x6, z0) else (f_X12_takes z0).bind (fun q9 => some (x6, q9)))))
def f_X12_number_J49 (z0 : MS) : Option (Int32 × MS) := (f_X12_wrong z0 (2 : Int32)).bind (fun q5 => f_X12_number_J54 q5)
def f_X12_number (v : MS) (p0 : Int32) (p1 : Int32) : Option (Int32 × MS) := (f_X12_isGood v).bind (fun q1 => (if q1 = 0 then some ((0 : Int32), v) else (if (v.1 14) = (2 : Int32) then (if (4 : Int32) < (v.1 16) then f_X12_number_J49 v else (if (v.1 17) < p0 then f_X12_number_J49 v else (if (v.1 17) ≤ p1 then f_X12_number_J54 v else f_X12_number_J49 v))) else (f_X12_wrong v (1 : Int32)).bind (fun q12 => f_X12_number_J54 q12))))
set_option maxRecDepth 20000 in
theorem w_X12_number_J54 {p : Program} {l : Launch} {e : Env} {s : State} {m : MethodId} {args : Array Value} {below : List Frame} {meth : Method} {c : Code} {D : va_G} {A : Nat → Prop} {dT : Nat → ClassId} {a : Nat → Nat} {res : Int32 × MS} (C : Cx p s m args meth c cX12_number 4 RX12 (some .int) D A dT) : ∀ (z0 : MS), f_X12_number_J54 z0 = some res → WA p l e ({ frames := 2, cells := 0, slots := 0, locals := 42 } : Room) s m args below meth c (MQ below (QI D dT A ([wM dT a res.2]) res.1) args s 0 0 A) D A 0 0 4 54 ([wM dT a z0]) [(0, .ref (a 0))] [] := by
  intro z0 hf
  unfold f_X12_number_J54 at hf
  refine wa_aload_n C 0 55 dX12_number_54 rfl rfl ?_
  refine wa_get C 58 0 0 17 dX12_number_55 rfl iX12 q1466 rfl (Nat.le_of_ble_eq_true rfl) rfl rfl rfl ?_
  obtain ⟨x6, ex6, hf⟩ := bnd_ex hf
  refine wa_topi ex6 ?_
  refine wa_istore_n (lv' := [(0, .ref (a 0)), (3, .int x6)]) C [1, 0] 59 dX12_number_58 rfl (Nat.le_of_ble_eq_true rfl) rfl ?_
  refine wa_aload_n C 0 60 dX12_number_59 rfl rfl ?_
  obtain ⟨q7, hq7, hf⟩ := bind_ex hf
  refine wa_callVAi (b1 := 0) (q1 := 0) (ci := 12) (As := []) C 63 dX12_number_60 rfl kv_X12_155 (c_X12_isGood hq7) ⟨rfl, rfl⟩ ⟨Nat.le_of_ble_eq_true rfl, Nat.le_of_ble_eq_true rfl⟩ rfl rfl rfl rfl rfl ⟨Nat.zero_le _, Nat.zero_le _⟩ (Nat.le_of_ble_eq_true rfl) ?_
  refine wa_if_eq C 70 66 dX12_number_63 rfl rfl (fun c8 => ?_) (fun c8 => ?_)
  · replace hf := ite_t hf c8
    refine wa_iload_n C 1 71 dX12_number_70 rfl rfl ?_
    cases hf
    exact wa_iret C dX12_number_71 rfl rfl
  · replace hf := ite_f hf c8
    refine wa_aload_n C 0 67 dX12_number_66 rfl rfl ?_
    obtain ⟨q9, hq9, hf⟩ := bind_ex hf
    refine wa_callVAv (b1 := 0) (q1 := 0) (ci := 12) (As := []) C 70 dX12_number_67 rfl kv_X12_159 (c_X12_takes hq9) ⟨rfl, rfl⟩ ⟨Nat.le_of_ble_eq_true rfl, Nat.le_of_ble_eq_true rfl⟩ rfl rfl rfl rfl rfl ⟨Nat.zero_le _, Nat.zero_le _⟩ (Nat.le_of_ble_eq_true rfl) ?_
    refine wa_iload_n C 1 71 dX12_number_70 rfl rfl ?_
    cases hf
    exact wa_iret C dX12_number_71 rfl rfl
set_option maxRecDepth 20000 in
theorem w_X12_number_J49 {p : Program} {l : Launch} {e : Env} {s : State} {m : MethodId} {args : Array Value} {below : List Frame} {meth : Method} {c : Code} {D : va_G} {A : Nat → Prop} {dT : Nat → ClassId} {a : Nat → Nat} {res : Int32 × MS} (C : Cx p s m args meth c cX12_number 4 RX12 (some .int) D A dT) : ∀ (z0 : MS), f_X12_number_J49 z0 = some res → WA p l e ({ frames := 2, cells := 0, slots := 0, locals := 42 } : Room) s m args below meth c (MQ below (QI D dT A ([wM dT a res.2]) res.1) args s 0 0 A) D A 0 0 4 49 ([wM dT a z0]) [(0, .ref (a 0))] [] := by
  intro z0 hf
  unfold f_X12_number_J49 at hf
  refine wa_aload_n C 0 50 dX12_number_49 rfl rfl ?_
  refine wa_iconst (v := 2) C 51 dX12_number_50 rfl rfl ?_
  obtain ⟨q5, hq5, hf⟩ := bind_ex hf
  refine wa_callVAv (b1 := 0) (q1 := 0) (ci := 12) (As := [.int (2 : Int32)]) C 54 dX12_number_51 rfl kv_X12_162 (c_X12_wrong hq5) ⟨rfl, rfl⟩ ⟨Nat.le_of_ble_eq_true rfl, Nat.le_of_ble_eq_true rfl⟩ rfl rfl rfl rfl rfl ⟨Nat.zero_le _, Nat.zero_le _⟩ (Nat.le_of_ble_eq_true rfl) ?_
  exact w_X12_number_J54 C q5 hf
set_option maxRecDepth 20000 in
theorem c_X12_number {l : Launch} {D : va_G} {dT : Nat → ClassId} {a : Nat → Nat} {v : MS} {p0 : Int32} {p1 : Int32} {res : Int32 × MS} (hf : f_X12_number v p0 p1 = some res) : CTi l yX12_number cX12_number 4 (some .int) ({ frames := 2, cells := 0, slots := 0, locals := 42 } : Room) D dT [.ref (a 0), .int p0, .int p1] ([wM dT a v]) ([wM dT a res.2]) res.1 := by
  refine CTi.of (by decide) (Nat.le_of_ble_eq_true rfl) rfl ?_
  intro p e s m args below meth c A C
  unfold f_X12_number at hf
  refine wa_aload_n C 0 1 dX12_number_0 rfl rfl ?_
  obtain ⟨q1, hq1, hf⟩ := bind_ex hf
  refine wa_callVAi (b1 := 0) (q1 := 0) (ci := 12) (As := []) C 4 dX12_number_1 rfl kv_X12_155 (c_X12_isGood hq1) ⟨rfl, rfl⟩ ⟨Nat.le_of_ble_eq_true rfl, Nat.le_of_ble_eq_true rfl⟩ rfl rfl rfl rfl rfl ⟨Nat.zero_le _, Nat.zero_le _⟩ (Nat.le_of_ble_eq_true rfl) ?_
  refine wa_if_ne C 9 7 dX12_number_4 rfl rfl (fun c2 => ?_) (fun c2 => ?_)
  · replace hf := ite_f hf c2
    refine wa_aload_n C 0 10 dX12_number_9 rfl rfl ?_
    refine wa_get C 13 0 0 14 dX12_number_10 rfl iX12 q1463 rfl (Nat.le_of_ble_eq_true rfl) rfl rfl rfl ?_
    refine wa_iconst (v := 2) C 14 dX12_number_13 rfl rfl ?_
    refine wa_icmp_eq C 25 17 dX12_number_14 rfl rfl (fun c3 => ?_) (fun c3 => ?_)
    · replace hf := ite_t hf c3
      refine wa_aload_n C 0 26 dX12_number_25 rfl rfl ?_
      refine wa_get C 29 0 0 16 dX12_number_26 rfl iX12 q1465 rfl (Nat.le_of_ble_eq_true rfl) rfl rfl rfl ?_
      refine wa_iconst (v := 4) C 30 dX12_number_29 rfl rfl ?_
      refine wa_icmp_gt C 49 33 dX12_number_30 rfl rfl (fun c4 => ?_) (fun c4 => ?_)
      · replace hf := ite_t hf c4
        refine wa_lv (lv' := [(0, .ref (a 0))]) [0] rfl ?_
        exact w_X12_number_J49 C v hf
      · replace hf := ite_f hf c4
        refine wa_aload_n C 0 34 dX12_number_33 rfl rfl ?_
        refine wa_get C 37 0 0 17 dX12_number_34 rfl iX12 q1466 rfl (Nat.le_of_ble_eq_true rfl) rfl rfl rfl ?_
        refine wa_iload_n C 1 38 dX12_number_37 rfl rfl ?_
        refine wa_icmp_lt C 49 41 dX12_number_38 rfl rfl (fun c10 => ?_) (fun c10 => ?_)
        · replace hf := ite_t hf c10
          refine wa_lv (lv' := [(0, .ref (a 0))]) [0] rfl ?_
          exact w_X12_number_J49 C v hf
        · replace hf := ite_f hf c10
          refine wa_aload_n C 0 42 dX12_number_41 rfl rfl ?_
          refine wa_get C 45 0 0 17 dX12_number_42 rfl iX12 q1466 rfl (Nat.le_of_ble_eq_true rfl) rfl rfl rfl ?_
          refine wa_iload_n C 2 46 dX12_number_45 rfl rfl ?_
          refine wa_icmp_le C 54 49 dX12_number_46 rfl rfl (fun c11 => ?_) (fun c11 => ?_)
          · replace hf := ite_t hf c11
            refine wa_lv (lv' := [(0, .ref (a 0))]) [0] rfl ?_
            exact w_X12_number_J54 C v hf
          · replace hf := ite_f hf c11
            refine wa_lv (lv' := [(0, .ref (a 0))]) [0] rfl ?_
            exact w_X12_number_J49 C v hf
    · replace hf := ite_f hf c3
      refine wa_aload_n C 0 18 dX12_number_17 rfl rfl ?_
      refine wa_iconst (v := 1) C 19 dX12_number_18 rfl rfl ?_
      obtain ⟨q12, hq12, hf⟩ := bind_ex hf
      refine wa_callVAv (b1 := 0) (q1 := 0) (ci := 12) (As := [.int (1 : Int32)]) C 22 dX12_number_19 rfl kv_X12_162 (c_X12_wrong hq12) ⟨rfl, rfl⟩ ⟨Nat.le_of_ble_eq_true rfl, Nat.le_of_ble_eq_true rfl⟩ rfl rfl rfl rfl rfl ⟨Nat.zero_le _, Nat.zero_le _⟩ (Nat.le_of_ble_eq_true rfl) ?_
      refine wa_goto C 54 dX12_number_22 rfl ?_
      refine wa_lv (lv' := [(0, .ref (a 0))]) [0] rfl ?_
      exact w_X12_number_J54 C q12 hf
  · replace hf := ite_t hf c2
    refine wa_iconst (v := 0) C 8 dX12_number_7 rfl rfl ?_
    cases hf
    exact wa_iret C dX12_number_8 rfl rfl
def f_X12_isOneOf_J54 (z0 : MS) : Option (Int32 × MS) := (f_X12_isGood z0).bind (fun q6 => grd (bz q6) (some (q6, z0)))
def f_X12_isOneOf (v : MS) (p0 : Int32) : Option (Int32 × MS) := (f_X12_isGood v).bind (fun q1 => (if q1 = 0 then some ((0 : Int32), v) else (if (v.1 14) = (2 : Int32) then (if (v.1 16) ≤ (4 : Int32) then (if (v.1 17) < p0 then f_X12_isOneOf_J54 v else (f_X12_wrong v (3 : Int32)).bind (fun q8 => f_X12_isOneOf_J54 q8)) else (f_X12_wrong v (2 : Int32)).bind (fun q9 => f_X12_isOneOf_J54 q9)) else (f_X12_wrong v (1 : Int32)).bind (fun q10 => f_X12_isOneOf_J54 q10))))
set_option maxRecDepth 20000 in
theorem w_X12_isOneOf_J54 {p : Program} {l : Launch} {e : Env} {s : State} {m : MethodId} {args : Array Value} {below : List Frame} {meth : Method} {c : Code} {D : va_G} {A : Nat → Prop} {dT : Nat → ClassId} {a : Nat → Nat} {res : Int32 × MS} (C : Cx p s m args meth c cX12_isOneOf 2 RX12 (some .boolean) D A dT) : ∀ (z0 : MS), f_X12_isOneOf_J54 z0 = some res → WA p l e ({ frames := 1, cells := 0, slots := 0, locals := 21 } : Room) s m args below meth c (MQ below (QI D dT A ([wM dT a res.2]) res.1) args s 0 0 A) D A 0 0 2 54 ([wM dT a z0]) [(0, .ref (a 0))] [] := by
  intro z0 hf
  unfold f_X12_isOneOf_J54 at hf
  refine wa_aload_n C 0 55 dX12_isOneOf_54 rfl rfl ?_
  obtain ⟨q6, hq6, hf⟩ := bind_ex hf
  refine wa_callVAi (b1 := 0) (q1 := 0) (ci := 12) (As := []) C 58 dX12_isOneOf_55 rfl kv_X12_155 (c_X12_isGood hq6) ⟨rfl, rfl⟩ ⟨Nat.le_of_ble_eq_true rfl, Nat.le_of_ble_eq_true rfl⟩ rfl rfl rfl rfl rfl ⟨Nat.zero_le _, Nat.zero_le _⟩ (Nat.le_of_ble_eq_true rfl) ?_
  obtain ⟨g7, hf⟩ := grd_ex hf
  cases hf
  exact wa_zret C dX12_isOneOf_58 (bz_nar g7) rfl rfl
set_option maxRecDepth 20000 in
theorem c_X12_isOneOf {l : Launch} {D : va_G} {dT : Nat → ClassId} {a : Nat → Nat} {v : MS} {p0 : Int32} {res : Int32 × MS} (hf : f_X12_isOneOf v p0 = some res) : CTi l yX12_isOneOf cX12_isOneOf 2 (some .boolean) ({ frames := 1, cells := 0, slots := 0, locals := 21 } : Room) D dT [.ref (a 0), .int p0] ([wM dT a v]) ([wM dT a res.2]) res.1 := by
  refine CTi.of (by decide) (Nat.le_of_ble_eq_true rfl) rfl ?_
  intro p e s m args below meth c A C
  unfold f_X12_isOneOf at hf
  refine wa_aload_n C 0 1 dX12_isOneOf_0 rfl rfl ?_
  obtain ⟨q1, hq1, hf⟩ := bind_ex hf
  refine wa_callVAi (b1 := 0) (q1 := 0) (ci := 12) (As := []) C 4 dX12_isOneOf_1 rfl kv_X12_155 (c_X12_isGood hq1) ⟨rfl, rfl⟩ ⟨Nat.le_of_ble_eq_true rfl, Nat.le_of_ble_eq_true rfl⟩ rfl rfl rfl rfl rfl ⟨Nat.zero_le _, Nat.zero_le _⟩ (Nat.le_of_ble_eq_true rfl) ?_
  refine wa_if_ne C 9 7 dX12_isOneOf_4 rfl rfl (fun c2 => ?_) (fun c2 => ?_)
  · replace hf := ite_f hf c2
    refine wa_aload_n C 0 10 dX12_isOneOf_9 rfl rfl ?_
    refine wa_get C 13 0 0 14 dX12_isOneOf_10 rfl iX12 q1463 rfl (Nat.le_of_ble_eq_true rfl) rfl rfl rfl ?_
    refine wa_iconst (v := 2) C 14 dX12_isOneOf_13 rfl rfl ?_
    refine wa_icmp_eq C 25 17 dX12_isOneOf_14 rfl rfl (fun c3 => ?_) (fun c3 => ?_)
    · replace hf := ite_t hf c3
      refine wa_aload_n C 0 26 dX12_isOneOf_25 rfl rfl ?_
      refine wa_get C 29 0 0 16 dX12_isOneOf_26 rfl iX12 q1465 rfl (Nat.le_of_ble_eq_true rfl) rfl rfl rfl ?_
      refine wa_iconst (v := 4) C 30 dX12_isOneOf_29 rfl rfl ?_
      refine wa_icmp_le C 41 33 dX12_isOneOf_30 rfl rfl (fun c4 => ?_) (fun c4 => ?_)
      · replace hf := ite_t hf c4
        refine wa_aload_n C 0 42 dX12_isOneOf_41 rfl rfl ?_
        refine wa_get C 45 0 0 17 dX12_isOneOf_42 rfl iX12 q1466 rfl (Nat.le_of_ble_eq_true rfl) rfl rfl rfl ?_
        refine wa_iload_n C 1 46 dX12_isOneOf_45 rfl rfl ?_
        refine wa_icmp_lt C 54 49 dX12_isOneOf_46 rfl rfl (fun c5 => ?_) (fun c5 => ?_)
        · replace hf := ite_t hf c5
          refine wa_lv (lv' := [(0, .ref (a 0))]) [0] rfl ?_
          exact w_X12_isOneOf_J54 C v hf
        · replace hf := ite_f hf c5
          refine wa_aload_n C 0 50 dX12_isOneOf_49 rfl rfl ?_
          refine wa_iconst (v := 3) C 51 dX12_isOneOf_50 rfl rfl ?_
          obtain ⟨q8, hq8, hf⟩ := bind_ex hf
          refine wa_callVAv (b1 := 0) (q1 := 0) (ci := 12) (As := [.int (3 : Int32)]) C 54 dX12_isOneOf_51 rfl kv_X12_162 (c_X12_wrong hq8) ⟨rfl, rfl⟩ ⟨Nat.le_of_ble_eq_true rfl, Nat.le_of_ble_eq_true rfl⟩ rfl rfl rfl rfl rfl ⟨Nat.zero_le _, Nat.zero_le _⟩ (Nat.le_of_ble_eq_true rfl) ?_
          refine wa_lv (lv' := [(0, .ref (a 0))]) [0] rfl ?_
          exact w_X12_isOneOf_J54 C q8 hf
      · replace hf := ite_f hf c4
        refine wa_aload_n C 0 34 dX12_isOneOf_33 rfl rfl ?_
        refine wa_iconst (v := 2) C 35 dX12_isOneOf_34 rfl rfl ?_
        obtain ⟨q9, hq9, hf⟩ := bind_ex hf
        refine wa_callVAv (b1 := 0) (q1 := 0) (ci := 12) (As := [.int (2 : Int32)]) C 38 dX12_isOneOf_35 rfl kv_X12_162 (c_X12_wrong hq9) ⟨rfl, rfl⟩ ⟨Nat.le_of_ble_eq_true rfl, Nat.le_of_ble_eq_true rfl⟩ rfl rfl rfl rfl rfl ⟨Nat.zero_le _, Nat.zero_le _⟩ (Nat.le_of_ble_eq_true rfl) ?_
        refine wa_goto C 54 dX12_isOneOf_38 rfl ?_
        refine wa_lv (lv' := [(0, .ref (a 0))]) [0] rfl ?_
        exact w_X12_isOneOf_J54 C q9 hf
    · replace hf := ite_f hf c3
      refine wa_aload_n C 0 18 dX12_isOneOf_17 rfl rfl ?_
      refine wa_iconst (v := 1) C 19 dX12_isOneOf_18 rfl rfl ?_
      obtain ⟨q10, hq10, hf⟩ := bind_ex hf
      refine wa_callVAv (b1 := 0) (q1 := 0) (ci := 12) (As := [.int (1 : Int32)]) C 22 dX12_isOneOf_19 rfl kv_X12_162 (c_X12_wrong hq10) ⟨rfl, rfl⟩ ⟨Nat.le_of_ble_eq_true rfl, Nat.le_of_ble_eq_true rfl⟩ rfl rfl rfl rfl rfl ⟨Nat.zero_le _, Nat.zero_le _⟩ (Nat.le_of_ble_eq_true rfl) ?_
      refine wa_goto C 54 dX12_isOneOf_22 rfl ?_
      refine wa_lv (lv' := [(0, .ref (a 0))]) [0] rfl ?_
      exact w_X12_isOneOf_J54 C q10 hf
  · replace hf := ite_t hf c2
    refine wa_iconst (v := 0) C 8 dX12_isOneOf_7 rfl rfl ?_
    cases hf
    exact wa_zret C dX12_isOneOf_8 rfl rfl rfl
def f_X12_puts (v : MS) (p0 : Int32) : Option (MS) := grd (vi (v.1 24) 1400) (bnd (v.1, v.2.1, uA v.2.2 7 ((v.1 24)).toNatClampNeg p0) (fun y2 => bnd (upd y2.1 24 ((y2.1 24) + (1 : Int32)), y2.2) (fun y3 => some (y3))))
set_option maxRecDepth 20000 in
theorem c_X12_puts {l : Launch} {D : va_G} {dT : Nat → ClassId} {a : Nat → Nat} {v : MS} {p0 : Int32} {res : MS} (hf : f_X12_puts v p0 = some res) : CTv l yX12_puts cX12_puts 2 none ({ frames := 0, cells := 0, slots := 0, locals := 0 } : Room) D dT [.ref (a 0), .int p0] ([wM dT a v]) ([wM dT a res]) := by
  refine CTv.of (by decide) (Nat.le_of_ble_eq_true rfl) rfl ?_
  intro p e s m args below meth c A C
  unfold f_X12_puts at hf
  refine wa_aload_n C 0 1 dX12_puts_0 rfl rfl ?_
  refine wa_get C 4 0 0 31 dX12_puts_1 rfl iX12 q1480 rfl (Nat.le_of_ble_eq_true rfl) rfl rfl rfl ?_
  refine wa_aload_n C 0 5 dX12_puts_4 rfl rfl ?_
  refine wa_get C 8 0 0 24 dX12_puts_5 rfl iX12 q1473 rfl (Nat.le_of_ble_eq_true rfl) rfl rfl rfl ?_
  refine wa_iload_n C 1 9 dX12_puts_8 rfl rfl ?_
  obtain ⟨g1, hf⟩ := grd_ex hf
  obtain ⟨y2, ey2, hf⟩ := bnd_ex hf
  refine wa_iast (ws' := [wM dT a y2]) C 10 0 7 dX12_puts_9 rfl rfl rfl (vi_in g1) (by rw [ey2]; rfl) ?_
  refine wa_aload_n C 0 11 dX12_puts_10 rfl rfl ?_
  refine wa_dup C 12 dX12_puts_11 rfl rfl ?_
  refine wa_get C 15 0 0 24 dX12_puts_12 rfl iX12 q1473 rfl (Nat.le_of_ble_eq_true rfl) rfl rfl rfl ?_
  refine wa_iconst (v := 1) C 16 dX12_puts_15 rfl rfl ?_
  refine wa_iadd C 17 dX12_puts_16 rfl ?_
  obtain ⟨y3, ey3, hf⟩ := bnd_ex hf
  refine wa_put (ws' := [wM dT a y3]) C 20 0 0 24 tyX12 dX12_puts_17 rfl iX12 tyX12_ok nmX12 q1473 rfl (Nat.le_of_ble_eq_true rfl) rfl rfl rfl rfl rfl (Nat.le_of_ble_eq_true rfl) (by rw [ey3]; rfl) ?_
  cases hf
  exact wa_vret C dX12_puts_20 rfl
def f_X12_isOpen (p0 : Int32) : Option (Int32) := (if p0 < (14 : Int32) then some ((0 : Int32)) else some ((1 : Int32)))
set_option maxRecDepth 20000 in
theorem c_X12_isOpen {l : Launch} {D : va_G} {dT : Nat → ClassId} {p0 : Int32} {res : Int32} (hf : f_X12_isOpen p0 = some res) : CTi l yX12_isOpen cX12_isOpen 1 (some .boolean) ({ frames := 0, cells := 0, slots := 0, locals := 0 } : Room) D dT [.int p0] ([]) ([]) res := by
  refine CTi.of (by decide) (Nat.le_of_ble_eq_true rfl) rfl ?_
  intro p e s m args below meth c A C
  unfold f_X12_isOpen at hf
  refine wa_iload_n C 0 1 dX12_isOpen_0 rfl rfl ?_
  refine wa_bipush (v := 14) C 3 dX12_isOpen_1 rfl rfl ?_
  refine wa_icmp_lt C 10 6 dX12_isOpen_3 rfl rfl (fun c1 => ?_) (fun c1 => ?_)
  · replace hf := ite_t hf c1
    refine wa_iconst (v := 0) C 11 dX12_isOpen_10 rfl rfl ?_
    cases hf
    exact wa_zret C dX12_isOpen_11 rfl rfl rfl
  · replace hf := ite_f hf c1
    refine wa_iconst (v := 1) C 7 dX12_isOpen_6 rfl rfl ?_
    refine wa_goto C 11 dX12_isOpen_7 rfl ?_
    cases hf
    exact wa_zret C dX12_isOpen_11 rfl rfl rfl
def f_X12_strength (p0 : Int32) : Option (Int32) := (if p0 = (5 : Int32) then some ((1 : Int32)) else (if p0 = (4 : Int32) then some ((2 : Int32)) else (if p0 = (3 : Int32) then some ((3 : Int32)) else (if p0 = (6 : Int32) then some ((4 : Int32)) else (if p0 = (7 : Int32) then some ((4 : Int32)) else (if p0 = (8 : Int32) then some ((5 : Int32)) else (if p0 = (9 : Int32) then some ((5 : Int32)) else some ((6 : Int32)))))))))
set_option maxRecDepth 20000 in
theorem c_X12_strength {l : Launch} {D : va_G} {dT : Nat → ClassId} {p0 : Int32} {res : Int32} (hf : f_X12_strength p0 = some res) : CTi l yX12_strength cX12_strength 1 (some .int) ({ frames := 0, cells := 0, slots := 0, locals := 0 } : Room) D dT [.int p0] ([]) ([]) res := by
  refine CTi.of (by decide) (Nat.le_of_ble_eq_true rfl) rfl ?_
  intro p e s m args below meth c A C
  unfold f_X12_strength at hf
  refine wa_iload_n C 0 1 dX12_strength_0 rfl rfl ?_
  refine wa_iconst (v := 5) C 2 dX12_strength_1 rfl rfl ?_
  refine wa_icmp_ne C 9 5 dX12_strength_2 rfl rfl (fun c1 => ?_) (fun c1 => ?_)
  · replace hf := ite_f hf c1
    refine wa_iload_n C 0 10 dX12_strength_9 rfl rfl ?_
    refine wa_iconst (v := 4) C 11 dX12_strength_10 rfl rfl ?_
    refine wa_icmp_ne C 18 14 dX12_strength_11 rfl rfl (fun c2 => ?_) (fun c2 => ?_)
    · replace hf := ite_f hf c2
      refine wa_iload_n C 0 19 dX12_strength_18 rfl rfl ?_
      refine wa_iconst (v := 3) C 20 dX12_strength_19 rfl rfl ?_
      refine wa_icmp_ne C 27 23 dX12_strength_20 rfl rfl (fun c3 => ?_) (fun c3 => ?_)
      · replace hf := ite_f hf c3
        refine wa_iload_n C 0 28 dX12_strength_27 rfl rfl ?_
        refine wa_bipush (v := 6) C 30 dX12_strength_28 rfl rfl ?_
        refine wa_icmp_eq C 39 33 dX12_strength_30 rfl rfl (fun c4 => ?_) (fun c4 => ?_)
        · replace hf := ite_t hf c4
          refine wa_iconst (v := 4) C 40 dX12_strength_39 rfl rfl ?_
          refine wa_goto C 61 dX12_strength_40 rfl ?_
          cases hf
          exact wa_iret C dX12_strength_61 rfl rfl
        · replace hf := ite_f hf c4
          refine wa_iload_n C 0 34 dX12_strength_33 rfl rfl ?_
          refine wa_bipush (v := 7) C 36 dX12_strength_34 rfl rfl ?_
          refine wa_icmp_ne C 43 39 dX12_strength_36 rfl rfl (fun c5 => ?_) (fun c5 => ?_)
          · replace hf := ite_f hf c5
            refine wa_iload_n C 0 44 dX12_strength_43 rfl rfl ?_
            refine wa_bipush (v := 8) C 46 dX12_strength_44 rfl rfl ?_
            refine wa_icmp_eq C 55 49 dX12_strength_46 rfl rfl (fun c6 => ?_) (fun c6 => ?_)
            · replace hf := ite_t hf c6
              refine wa_iconst (v := 5) C 56 dX12_strength_55 rfl rfl ?_
              refine wa_goto C 61 dX12_strength_56 rfl ?_
              cases hf
              exact wa_iret C dX12_strength_61 rfl rfl
            · replace hf := ite_f hf c6
              refine wa_iload_n C 0 50 dX12_strength_49 rfl rfl ?_
              refine wa_bipush (v := 9) C 52 dX12_strength_50 rfl rfl ?_
              refine wa_icmp_ne C 59 55 dX12_strength_52 rfl rfl (fun c7 => ?_) (fun c7 => ?_)
              · replace hf := ite_f hf c7
                refine wa_bipush (v := 6) C 61 dX12_strength_59 rfl rfl ?_
                cases hf
                exact wa_iret C dX12_strength_61 rfl rfl
              · replace hf := ite_t hf c7
                refine wa_iconst (v := 5) C 56 dX12_strength_55 rfl rfl ?_
                refine wa_goto C 61 dX12_strength_56 rfl ?_
                cases hf
                exact wa_iret C dX12_strength_61 rfl rfl
          · replace hf := ite_t hf c5
            refine wa_iconst (v := 4) C 40 dX12_strength_39 rfl rfl ?_
            refine wa_goto C 61 dX12_strength_40 rfl ?_
            cases hf
            exact wa_iret C dX12_strength_61 rfl rfl
      · replace hf := ite_t hf c3
        refine wa_iconst (v := 3) C 24 dX12_strength_23 rfl rfl ?_
        refine wa_goto C 61 dX12_strength_24 rfl ?_
        cases hf
        exact wa_iret C dX12_strength_61 rfl rfl
    · replace hf := ite_t hf c2
      refine wa_iconst (v := 2) C 15 dX12_strength_14 rfl rfl ?_
      refine wa_goto C 61 dX12_strength_15 rfl ?_
      cases hf
      exact wa_iret C dX12_strength_61 rfl rfl
  · replace hf := ite_t hf c1
    refine wa_iconst (v := 1) C 6 dX12_strength_5 rfl rfl ?_
    refine wa_goto C 61 dX12_strength_6 rfl ?_
    cases hf
    exact wa_iret C dX12_strength_61 rfl rfl
theorem ks_X12_171 : KS RX12 171 yX12_isOpen cX12_isOpen 1 (some .boolean) 1 := KS.mk q1741 q1742 q13 q1743 ⟨by decide, by decide, by decide +kernel⟩
theorem ks_X12_174 : KS RX12 174 yX12_strength cX12_strength 1 (some .int) 1 := KS.mk q1744 q1745 q13 q1746 ⟨by decide, by decide, by decide +kernel⟩
theorem kv_X12_177 : KV RX12 177 yX12_puts cX12_puts 2 none 1 := KV.mk q1733 q1735 qs66 q13 q1736 ⟨by decide, by decide, by decide +kernel⟩
def f_X12_drops_L0 (l1 : Int32) : Nat → MS → Option (MS)
  | 0, _ => none
  | n + 1, z0 => (if (z0.1 27) ≤ 0 then some (z0) else grd (vi ((z0.1 27) - (1 : Int32)) 950) ((f_X12_isOpen (z0.2.2 8 (((z0.1 27) - (1 : Int32))).toNatClampNeg)).bind (fun q3 => (if q3 = 0 then grd (vi ((z0.1 27) - (1 : Int32)) 950) ((f_X12_strength (z0.2.2 8 (((z0.1 27) - (1 : Int32))).toNatClampNeg)).bind (fun q6 => (if q6 < l1 then some (z0) else bnd (upd z0.1 27 ((z0.1 27) - (1 : Int32)), z0.2) (fun y8 => grd (vi (y8.1 27) 950) ((f_X12_puts y8 (y8.2.2 8 ((y8.1 27)).toNatClampNeg)).bind (fun q10 => f_X12_drops_L0 l1 n q10)))))) else some (z0)))))
def f_X12_drops (v : MS) (p0 : Int32) : Option (MS) := f_X12_drops_L0 p0 FUEL v
set_option maxRecDepth 20000 in
theorem w_X12_drops_L0 {p : Program} {l : Launch} {e : Env} {s : State} {m : MethodId} {args : Array Value} {below : List Frame} {meth : Method} {c : Code} {D : va_G} {A : Nat → Prop} {dT : Nat → ClassId} {a : Nat → Nat} {res : MS} {l1 : Int32} (C : Cx p s m args meth c cX12_drops 2 RX12 none D A dT) : ∀ (n : Nat) (z0 : MS), f_X12_drops_L0 l1 n z0 = some res → WA p l e ({ frames := 1, cells := 0, slots := 0, locals := 21 } : Room) s m args below meth c (MQ below (QV D dT A ([wM dT a res])) args s 0 0 A) D A 0 0 2 0 ([wM dT a z0]) [(0, .ref (a 0)), (1, .int l1)] [] := by
  intro n
  induction n with
  | zero => intro z0 hf; cases hf
  | succ n ih =>
    intro z0 hf
    unfold f_X12_drops_L0 at hf
    refine wa_aload_n C 0 1 dX12_drops_0 rfl rfl ?_
    refine wa_get C 4 0 0 27 dX12_drops_1 rfl iX12 q1476 rfl (Nat.le_of_ble_eq_true rfl) rfl rfl rfl ?_
    refine wa_if_le C 68 7 dX12_drops_4 rfl rfl (fun c1 => ?_) (fun c1 => ?_)
    · replace hf := ite_t hf c1
      cases hf
      exact wa_vret C dX12_drops_68 rfl
    · replace hf := ite_f hf c1
      refine wa_aload_n C 0 8 dX12_drops_7 rfl rfl ?_
      refine wa_get C 11 0 0 32 dX12_drops_8 rfl iX12 q1481 rfl (Nat.le_of_ble_eq_true rfl) rfl rfl rfl ?_
      refine wa_aload_n C 0 12 dX12_drops_11 rfl rfl ?_
      refine wa_get C 15 0 0 27 dX12_drops_12 rfl iX12 q1476 rfl (Nat.le_of_ble_eq_true rfl) rfl rfl rfl ?_
      refine wa_iconst (v := 1) C 16 dX12_drops_15 rfl rfl ?_
      refine wa_isub C 17 dX12_drops_16 rfl ?_
      obtain ⟨g2, hf⟩ := grd_ex hf
      refine wa_iald C 18 0 8 dX12_drops_17 rfl rfl rfl (vi_in g2) ?_
      obtain ⟨q3, hq3, hf⟩ := bind_ex hf
      refine wa_callS0i (As := [.int (z0.2.2 8 (((z0.1 27) - (1 : Int32))).toNatClampNeg)]) C 21 dX12_drops_18 rfl ks_X12_171 (c_X12_isOpen hq3) ⟨rfl, rfl⟩ ⟨Nat.le_of_ble_eq_true rfl, Nat.le_of_ble_eq_true rfl⟩ rfl rfl ⟨Nat.zero_le _, Nat.zero_le _⟩ (Nat.le_of_ble_eq_true rfl) ?_
      refine wa_if_ne C 68 24 dX12_drops_21 rfl rfl (fun c4 => ?_) (fun c4 => ?_)
      · replace hf := ite_f hf c4
        cases hf
        exact wa_vret C dX12_drops_68 rfl
      · replace hf := ite_t hf c4
        refine wa_aload_n C 0 25 dX12_drops_24 rfl rfl ?_
        refine wa_get C 28 0 0 32 dX12_drops_25 rfl iX12 q1481 rfl (Nat.le_of_ble_eq_true rfl) rfl rfl rfl ?_
        refine wa_aload_n C 0 29 dX12_drops_28 rfl rfl ?_
        refine wa_get C 32 0 0 27 dX12_drops_29 rfl iX12 q1476 rfl (Nat.le_of_ble_eq_true rfl) rfl rfl rfl ?_
        refine wa_iconst (v := 1) C 33 dX12_drops_32 rfl rfl ?_
        refine wa_isub C 34 dX12_drops_33 rfl ?_
        obtain ⟨g5, hf⟩ := grd_ex hf
        refine wa_iald C 35 0 8 dX12_drops_34 rfl rfl rfl (vi_in g5) ?_
        obtain ⟨q6, hq6, hf⟩ := bind_ex hf
        refine wa_callS0i (As := [.int (z0.2.2 8 (((z0.1 27) - (1 : Int32))).toNatClampNeg)]) C 38 dX12_drops_35 rfl ks_X12_174 (c_X12_strength hq6) ⟨rfl, rfl⟩ ⟨Nat.le_of_ble_eq_true rfl, Nat.le_of_ble_eq_true rfl⟩ rfl rfl ⟨Nat.zero_le _, Nat.zero_le _⟩ (Nat.le_of_ble_eq_true rfl) ?_
        refine wa_iload_n C 1 39 dX12_drops_38 rfl rfl ?_
        refine wa_icmp_lt C 68 42 dX12_drops_39 rfl rfl (fun c7 => ?_) (fun c7 => ?_)
        · replace hf := ite_t hf c7
          cases hf
          exact wa_vret C dX12_drops_68 rfl
        · replace hf := ite_f hf c7
          refine wa_aload_n C 0 43 dX12_drops_42 rfl rfl ?_
          refine wa_dup C 44 dX12_drops_43 rfl rfl ?_
          refine wa_get C 47 0 0 27 dX12_drops_44 rfl iX12 q1476 rfl (Nat.le_of_ble_eq_true rfl) rfl rfl rfl ?_
          refine wa_iconst (v := 1) C 48 dX12_drops_47 rfl rfl ?_
          refine wa_isub C 49 dX12_drops_48 rfl ?_
          obtain ⟨y8, ey8, hf⟩ := bnd_ex hf
          refine wa_put (ws' := [wM dT a y8]) C 52 0 0 27 tyX12 dX12_drops_49 rfl iX12 tyX12_ok nmX12 q1476 rfl (Nat.le_of_ble_eq_true rfl) rfl rfl rfl rfl rfl (Nat.le_of_ble_eq_true rfl) (by rw [ey8]; rfl) ?_
          refine wa_aload_n C 0 53 dX12_drops_52 rfl rfl ?_
          refine wa_aload_n C 0 54 dX12_drops_53 rfl rfl ?_
          refine wa_get C 57 0 0 32 dX12_drops_54 rfl iX12 q1481 rfl (Nat.le_of_ble_eq_true rfl) rfl rfl rfl ?_
          refine wa_aload_n C 0 58 dX12_drops_57 rfl rfl ?_
          refine wa_get C 61 0 0 27 dX12_drops_58 rfl iX12 q1476 rfl (Nat.le_of_ble_eq_true rfl) rfl rfl rfl ?_
          obtain ⟨g9, hf⟩ := grd_ex hf
          refine wa_iald C 62 0 8 dX12_drops_61 rfl rfl rfl (vi_in g9) ?_
          obtain ⟨q10, hq10, hf⟩ := bind_ex hf
          refine wa_callVAv (b1 := 0) (q1 := 0) (ci := 12) (As := [.int (y8.2.2 8 ((y8.1 27)).toNatClampNeg)]) C 65 dX12_drops_62 rfl kv_X12_177 (c_X12_puts hq10) ⟨rfl, rfl⟩ ⟨Nat.le_of_ble_eq_true rfl, Nat.le_of_ble_eq_true rfl⟩ rfl rfl rfl rfl rfl ⟨Nat.zero_le _, Nat.zero_le _⟩ (Nat.le_of_ble_eq_true rfl) ?_
          refine wa_goto C 0 dX12_drops_65 rfl ?_
          exact ih q10 hf
set_option maxRecDepth 20000 in
theorem c_X12_drops {l : Launch} {D : va_G} {dT : Nat → ClassId} {a : Nat → Nat} {v : MS} {p0 : Int32} {res : MS} (hf : f_X12_drops v p0 = some res) : CTv l yX12_drops cX12_drops 2 none ({ frames := 1, cells := 0, slots := 0, locals := 21 } : Room) D dT [.ref (a 0), .int p0] ([wM dT a v]) ([wM dT a res]) := by
  refine CTv.of (by decide) (Nat.le_of_ble_eq_true rfl) rfl ?_
  intro p e s m args below meth c A C
  unfold f_X12_drops at hf
  exact w_X12_drops_L0 C FUEL v hf
def f_X12_waitsFor (v : MS) (p0 : Int32) : Option (MS) := grd (vi (v.1 27) 950) (bnd (v.1, v.2.1, uA v.2.2 8 ((v.1 27)).toNatClampNeg p0) (fun y2 => bnd (upd y2.1 27 ((y2.1 27) + (1 : Int32)), y2.2) (fun y3 => some (y3))))
set_option maxRecDepth 20000 in
theorem c_X12_waitsFor {l : Launch} {D : va_G} {dT : Nat → ClassId} {a : Nat → Nat} {v : MS} {p0 : Int32} {res : MS} (hf : f_X12_waitsFor v p0 = some res) : CTv l yX12_waitsFor cX12_waitsFor 2 none ({ frames := 0, cells := 0, slots := 0, locals := 0 } : Room) D dT [.ref (a 0), .int p0] ([wM dT a v]) ([wM dT a res]) := by
  refine CTv.of (by decide) (Nat.le_of_ble_eq_true rfl) rfl ?_
  intro p e s m args below meth c A C
  unfold f_X12_waitsFor at hf
  refine wa_aload_n C 0 1 dX12_waitsFor_0 rfl rfl ?_
  refine wa_get C 4 0 0 32 dX12_waitsFor_1 rfl iX12 q1481 rfl (Nat.le_of_ble_eq_true rfl) rfl rfl rfl ?_
  refine wa_aload_n C 0 5 dX12_waitsFor_4 rfl rfl ?_
  refine wa_get C 8 0 0 27 dX12_waitsFor_5 rfl iX12 q1476 rfl (Nat.le_of_ble_eq_true rfl) rfl rfl rfl ?_
  refine wa_iload_n C 1 9 dX12_waitsFor_8 rfl rfl ?_
  obtain ⟨g1, hf⟩ := grd_ex hf
  obtain ⟨y2, ey2, hf⟩ := bnd_ex hf
  refine wa_iast (ws' := [wM dT a y2]) C 10 0 8 dX12_waitsFor_9 rfl rfl rfl (vi_in g1) (by rw [ey2]; rfl) ?_
  refine wa_aload_n C 0 11 dX12_waitsFor_10 rfl rfl ?_
  refine wa_dup C 12 dX12_waitsFor_11 rfl rfl ?_
  refine wa_get C 15 0 0 27 dX12_waitsFor_12 rfl iX12 q1476 rfl (Nat.le_of_ble_eq_true rfl) rfl rfl rfl ?_
  refine wa_iconst (v := 1) C 16 dX12_waitsFor_15 rfl rfl ?_
  refine wa_iadd C 17 dX12_waitsFor_16 rfl ?_
  obtain ⟨y3, ey3, hf⟩ := bnd_ex hf
  refine wa_put (ws' := [wM dT a y3]) C 20 0 0 27 tyX12 dX12_waitsFor_17 rfl iX12 tyX12_ok nmX12 q1476 rfl (Nat.le_of_ble_eq_true rfl) rfl rfl rfl rfl rfl (Nat.le_of_ble_eq_true rfl) (by rw [ey3]; rfl) ?_
  cases hf
  exact wa_vret C dX12_waitsFor_20 rfl
theorem kv_X12_180 : KV RX12 180 yX12_knownWord cX12_knownWord 2 (some .int) 0 := KV.mk q1670 q1672 qs52 q13 q1673 ⟨by decide, by decide, by decide +kernel⟩
def f_X12_part_J97 (z0 : MS) : Option (MS) := (f_X12_isGood z0).bind (fun q6 => (if q6 = 0 then some (z0) else (f_X12_takes z0).bind (fun q8 => some (q8))))
def f_X12_part_J79 (l1 : Int32) (z0 : MS) : Option (MS) := (f_X12_puts z0 (2 : Int32)).bind (fun q12 => (f_X12_puts q12 l1).bind (fun q13 => f_X12_part_J97 q13))
def f_X12_part_J74 (l1 : Int32) (z0 : MS) : Option (MS) := (f_X12_wrong z0 (3 : Int32)).bind (fun q11 => f_X12_part_J79 l1 q11)
def f_X12_part_J29 (z0 : MS) : Option (MS) := (f_X12_puts z0 (1 : Int32)).bind (fun q16 => (f_X12_puts q16 (q16.1 17)).bind (fun q17 => f_X12_part_J97 q17))
def f_X12_part (v : MS) : Option (MS) := (f_X12_isGood v).bind (fun q1 => (if q1 = 0 then some (v) else (if (v.1 14) = (2 : Int32) then (if (v.1 16) ≤ (4 : Int32) then f_X12_part_J29 v else (f_X12_wrong v (2 : Int32)).bind (fun q18 => f_X12_part_J29 q18)) else (if (v.1 14) = (1 : Int32) then (f_X12_knownWord v).bind (fun q9 => (if q9 < (v.1 25) then f_X12_part_J74 q9 v else (if q9 ≤ (v.1 26) then f_X12_part_J79 q9 v else f_X12_part_J74 q9 v))) else (f_X12_wrong v (1 : Int32)).bind (fun q5 => f_X12_part_J97 q5)))))
set_option maxRecDepth 20000 in
theorem w_X12_part_J97 {p : Program} {l : Launch} {e : Env} {s : State} {m : MethodId} {args : Array Value} {below : List Frame} {meth : Method} {c : Code} {D : va_G} {A : Nat → Prop} {dT : Nat → ClassId} {a : Nat → Nat} {res : MS} (C : Cx p s m args meth c cX12_part 2 RX12 none D A dT) : ∀ (z0 : MS), f_X12_part_J97 z0 = some res → WA p l e ({ frames := 3, cells := 0, slots := 0, locals := 69 } : Room) s m args below meth c (MQ below (QV D dT A ([wM dT a res])) args s 0 0 A) D A 0 0 2 97 ([wM dT a z0]) [(0, .ref (a 0))] [] := by
  intro z0 hf
  unfold f_X12_part_J97 at hf
  refine wa_aload_n C 0 98 dX12_part_97 rfl rfl ?_
  obtain ⟨q6, hq6, hf⟩ := bind_ex hf
  refine wa_callVAi (b1 := 0) (q1 := 0) (ci := 12) (As := []) C 101 dX12_part_98 rfl kv_X12_155 (c_X12_isGood hq6) ⟨rfl, rfl⟩ ⟨Nat.le_of_ble_eq_true rfl, Nat.le_of_ble_eq_true rfl⟩ rfl rfl rfl rfl rfl ⟨Nat.zero_le _, Nat.zero_le _⟩ (Nat.le_of_ble_eq_true rfl) ?_
  refine wa_if_eq C 108 104 dX12_part_101 rfl rfl (fun c7 => ?_) (fun c7 => ?_)
  · replace hf := ite_t hf c7
    cases hf
    exact wa_vret C dX12_part_108 rfl
  · replace hf := ite_f hf c7
    refine wa_aload_n C 0 105 dX12_part_104 rfl rfl ?_
    obtain ⟨q8, hq8, hf⟩ := bind_ex hf
    refine wa_callVAv (b1 := 0) (q1 := 0) (ci := 12) (As := []) C 108 dX12_part_105 rfl kv_X12_159 (c_X12_takes hq8) ⟨rfl, rfl⟩ ⟨Nat.le_of_ble_eq_true rfl, Nat.le_of_ble_eq_true rfl⟩ rfl rfl rfl rfl rfl ⟨Nat.zero_le _, Nat.zero_le _⟩ (Nat.le_of_ble_eq_true rfl) ?_
    cases hf
    exact wa_vret C dX12_part_108 rfl
set_option maxRecDepth 20000 in
theorem w_X12_part_J79 {p : Program} {l : Launch} {e : Env} {s : State} {m : MethodId} {args : Array Value} {below : List Frame} {meth : Method} {c : Code} {D : va_G} {A : Nat → Prop} {dT : Nat → ClassId} {a : Nat → Nat} {res : MS} (C : Cx p s m args meth c cX12_part 2 RX12 none D A dT) : ∀ (l1 : Int32) (z0 : MS), f_X12_part_J79 l1 z0 = some res → WA p l e ({ frames := 3, cells := 0, slots := 0, locals := 69 } : Room) s m args below meth c (MQ below (QV D dT A ([wM dT a res])) args s 0 0 A) D A 0 0 2 79 ([wM dT a z0]) [(0, .ref (a 0)), (1, .int l1)] [] := by
  intro l1 z0 hf
  unfold f_X12_part_J79 at hf
  refine wa_aload_n C 0 80 dX12_part_79 rfl rfl ?_
  refine wa_iconst (v := 2) C 81 dX12_part_80 rfl rfl ?_
  obtain ⟨q12, hq12, hf⟩ := bind_ex hf
  refine wa_callVAv (b1 := 0) (q1 := 0) (ci := 12) (As := [.int (2 : Int32)]) C 84 dX12_part_81 rfl kv_X12_177 (c_X12_puts hq12) ⟨rfl, rfl⟩ ⟨Nat.le_of_ble_eq_true rfl, Nat.le_of_ble_eq_true rfl⟩ rfl rfl rfl rfl rfl ⟨Nat.zero_le _, Nat.zero_le _⟩ (Nat.le_of_ble_eq_true rfl) ?_
  refine wa_aload_n C 0 85 dX12_part_84 rfl rfl ?_
  refine wa_iload_n C 1 86 dX12_part_85 rfl rfl ?_
  obtain ⟨q13, hq13, hf⟩ := bind_ex hf
  refine wa_callVAv (b1 := 0) (q1 := 0) (ci := 12) (As := [.int l1]) C 89 dX12_part_86 rfl kv_X12_177 (c_X12_puts hq13) ⟨rfl, rfl⟩ ⟨Nat.le_of_ble_eq_true rfl, Nat.le_of_ble_eq_true rfl⟩ rfl rfl rfl rfl rfl ⟨Nat.zero_le _, Nat.zero_le _⟩ (Nat.le_of_ble_eq_true rfl) ?_
  refine wa_goto C 97 dX12_part_89 rfl ?_
  refine wa_lv (lv' := [(0, .ref (a 0))]) [0] rfl ?_
  exact w_X12_part_J97 C q13 hf
set_option maxRecDepth 20000 in
theorem w_X12_part_J74 {p : Program} {l : Launch} {e : Env} {s : State} {m : MethodId} {args : Array Value} {below : List Frame} {meth : Method} {c : Code} {D : va_G} {A : Nat → Prop} {dT : Nat → ClassId} {a : Nat → Nat} {res : MS} (C : Cx p s m args meth c cX12_part 2 RX12 none D A dT) : ∀ (l1 : Int32) (z0 : MS), f_X12_part_J74 l1 z0 = some res → WA p l e ({ frames := 3, cells := 0, slots := 0, locals := 69 } : Room) s m args below meth c (MQ below (QV D dT A ([wM dT a res])) args s 0 0 A) D A 0 0 2 74 ([wM dT a z0]) [(0, .ref (a 0)), (1, .int l1)] [] := by
  intro l1 z0 hf
  unfold f_X12_part_J74 at hf
  refine wa_aload_n C 0 75 dX12_part_74 rfl rfl ?_
  refine wa_iconst (v := 3) C 76 dX12_part_75 rfl rfl ?_
  obtain ⟨q11, hq11, hf⟩ := bind_ex hf
  refine wa_callVAv (b1 := 0) (q1 := 0) (ci := 12) (As := [.int (3 : Int32)]) C 79 dX12_part_76 rfl kv_X12_162 (c_X12_wrong hq11) ⟨rfl, rfl⟩ ⟨Nat.le_of_ble_eq_true rfl, Nat.le_of_ble_eq_true rfl⟩ rfl rfl rfl rfl rfl ⟨Nat.zero_le _, Nat.zero_le _⟩ (Nat.le_of_ble_eq_true rfl) ?_
  exact w_X12_part_J79 C l1 q11 hf
set_option maxRecDepth 20000 in
theorem w_X12_part_J29 {p : Program} {l : Launch} {e : Env} {s : State} {m : MethodId} {args : Array Value} {below : List Frame} {meth : Method} {c : Code} {D : va_G} {A : Nat → Prop} {dT : Nat → ClassId} {a : Nat → Nat} {res : MS} (C : Cx p s m args meth c cX12_part 2 RX12 none D A dT) : ∀ (z0 : MS), f_X12_part_J29 z0 = some res → WA p l e ({ frames := 3, cells := 0, slots := 0, locals := 69 } : Room) s m args below meth c (MQ below (QV D dT A ([wM dT a res])) args s 0 0 A) D A 0 0 2 29 ([wM dT a z0]) [(0, .ref (a 0))] [] := by
  intro z0 hf
  unfold f_X12_part_J29 at hf
  refine wa_aload_n C 0 30 dX12_part_29 rfl rfl ?_
  refine wa_iconst (v := 1) C 31 dX12_part_30 rfl rfl ?_
  obtain ⟨q16, hq16, hf⟩ := bind_ex hf
  refine wa_callVAv (b1 := 0) (q1 := 0) (ci := 12) (As := [.int (1 : Int32)]) C 34 dX12_part_31 rfl kv_X12_177 (c_X12_puts hq16) ⟨rfl, rfl⟩ ⟨Nat.le_of_ble_eq_true rfl, Nat.le_of_ble_eq_true rfl⟩ rfl rfl rfl rfl rfl ⟨Nat.zero_le _, Nat.zero_le _⟩ (Nat.le_of_ble_eq_true rfl) ?_
  refine wa_aload_n C 0 35 dX12_part_34 rfl rfl ?_
  refine wa_aload_n C 0 36 dX12_part_35 rfl rfl ?_
  refine wa_get C 39 0 0 17 dX12_part_36 rfl iX12 q1466 rfl (Nat.le_of_ble_eq_true rfl) rfl rfl rfl ?_
  obtain ⟨q17, hq17, hf⟩ := bind_ex hf
  refine wa_callVAv (b1 := 0) (q1 := 0) (ci := 12) (As := [.int (q16.1 17)]) C 42 dX12_part_39 rfl kv_X12_177 (c_X12_puts hq17) ⟨rfl, rfl⟩ ⟨Nat.le_of_ble_eq_true rfl, Nat.le_of_ble_eq_true rfl⟩ rfl rfl rfl rfl rfl ⟨Nat.zero_le _, Nat.zero_le _⟩ (Nat.le_of_ble_eq_true rfl) ?_
  refine wa_goto C 97 dX12_part_42 rfl ?_
  exact w_X12_part_J97 C q17 hf
set_option maxRecDepth 20000 in
theorem c_X12_part {l : Launch} {D : va_G} {dT : Nat → ClassId} {a : Nat → Nat} {v : MS} {res : MS} (hf : f_X12_part v = some res) : CTv l yX12_part cX12_part 2 none ({ frames := 3, cells := 0, slots := 0, locals := 69 } : Room) D dT [.ref (a 0)] ([wM dT a v]) ([wM dT a res]) := by
  refine CTv.of (by decide) (Nat.le_of_ble_eq_true rfl) rfl ?_
  intro p e s m args below meth c A C
  unfold f_X12_part at hf
  refine wa_aload_n C 0 1 dX12_part_0 rfl rfl ?_
  obtain ⟨q1, hq1, hf⟩ := bind_ex hf
  refine wa_callVAi (b1 := 0) (q1 := 0) (ci := 12) (As := []) C 4 dX12_part_1 rfl kv_X12_155 (c_X12_isGood hq1) ⟨rfl, rfl⟩ ⟨Nat.le_of_ble_eq_true rfl, Nat.le_of_ble_eq_true rfl⟩ rfl rfl rfl rfl rfl ⟨Nat.zero_le _, Nat.zero_le _⟩ (Nat.le_of_ble_eq_true rfl) ?_
  refine wa_if_ne C 8 7 dX12_part_4 rfl rfl (fun c2 => ?_) (fun c2 => ?_)
  · replace hf := ite_f hf c2
    refine wa_aload_n C 0 9 dX12_part_8 rfl rfl ?_
    refine wa_get C 12 0 0 14 dX12_part_9 rfl iX12 q1463 rfl (Nat.le_of_ble_eq_true rfl) rfl rfl rfl ?_
    refine wa_iconst (v := 2) C 13 dX12_part_12 rfl rfl ?_
    refine wa_icmp_ne C 45 16 dX12_part_13 rfl rfl (fun c3 => ?_) (fun c3 => ?_)
    · replace hf := ite_f hf c3
      refine wa_aload_n C 0 46 dX12_part_45 rfl rfl ?_
      refine wa_get C 49 0 0 14 dX12_part_46 rfl iX12 q1463 rfl (Nat.le_of_ble_eq_true rfl) rfl rfl rfl ?_
      refine wa_iconst (v := 1) C 50 dX12_part_49 rfl rfl ?_
      refine wa_icmp_ne C 92 53 dX12_part_50 rfl rfl (fun c4 => ?_) (fun c4 => ?_)
      · replace hf := ite_f hf c4
        refine wa_aload_n C 0 93 dX12_part_92 rfl rfl ?_
        refine wa_iconst (v := 1) C 94 dX12_part_93 rfl rfl ?_
        obtain ⟨q5, hq5, hf⟩ := bind_ex hf
        refine wa_callVAv (b1 := 0) (q1 := 0) (ci := 12) (As := [.int (1 : Int32)]) C 97 dX12_part_94 rfl kv_X12_162 (c_X12_wrong hq5) ⟨rfl, rfl⟩ ⟨Nat.le_of_ble_eq_true rfl, Nat.le_of_ble_eq_true rfl⟩ rfl rfl rfl rfl rfl ⟨Nat.zero_le _, Nat.zero_le _⟩ (Nat.le_of_ble_eq_true rfl) ?_
        exact w_X12_part_J97 C q5 hf
      · replace hf := ite_t hf c4
        refine wa_aload_n C 0 54 dX12_part_53 rfl rfl ?_
        obtain ⟨q9, hq9, hf⟩ := bind_ex hf
        refine wa_callVAi (b1 := 0) (q1 := 0) (ci := 12) (As := []) C 57 dX12_part_54 rfl kv_X12_180 (c_X12_knownWord hq9) ⟨rfl, rfl⟩ ⟨Nat.le_of_ble_eq_true rfl, Nat.le_of_ble_eq_true rfl⟩ rfl rfl rfl rfl rfl ⟨Nat.zero_le _, Nat.zero_le _⟩ (Nat.le_of_ble_eq_true rfl) ?_
        refine wa_istore_n (lv' := [(0, .ref (a 0)), (1, .int q9)]) C [1, 0] 58 dX12_part_57 rfl (Nat.le_of_ble_eq_true rfl) rfl ?_
        refine wa_iload_n C 1 59 dX12_part_58 rfl rfl ?_
        refine wa_aload_n C 0 60 dX12_part_59 rfl rfl ?_
        refine wa_get C 63 0 0 25 dX12_part_60 rfl iX12 q1474 rfl (Nat.le_of_ble_eq_true rfl) rfl rfl rfl ?_
        refine wa_icmp_lt C 74 66 dX12_part_63 rfl rfl (fun c10 => ?_) (fun c10 => ?_)
        · replace hf := ite_t hf c10
          exact w_X12_part_J74 C q9 v hf
        · replace hf := ite_f hf c10
          refine wa_iload_n C 1 67 dX12_part_66 rfl rfl ?_
          refine wa_aload_n C 0 68 dX12_part_67 rfl rfl ?_
          refine wa_get C 71 0 0 26 dX12_part_68 rfl iX12 q1475 rfl (Nat.le_of_ble_eq_true rfl) rfl rfl rfl ?_
          refine wa_icmp_le C 79 74 dX12_part_71 rfl rfl (fun c14 => ?_) (fun c14 => ?_)
          · replace hf := ite_t hf c14
            exact w_X12_part_J79 C q9 v hf
          · replace hf := ite_f hf c14
            exact w_X12_part_J74 C q9 v hf
    · replace hf := ite_t hf c3
      refine wa_aload_n C 0 17 dX12_part_16 rfl rfl ?_
      refine wa_get C 20 0 0 16 dX12_part_17 rfl iX12 q1465 rfl (Nat.le_of_ble_eq_true rfl) rfl rfl rfl ?_
      refine wa_iconst (v := 4) C 21 dX12_part_20 rfl rfl ?_
      refine wa_icmp_le C 29 24 dX12_part_21 rfl rfl (fun c15 => ?_) (fun c15 => ?_)
      · replace hf := ite_t hf c15
        exact w_X12_part_J29 C v hf
      · replace hf := ite_f hf c15
        refine wa_aload_n C 0 25 dX12_part_24 rfl rfl ?_
        refine wa_iconst (v := 2) C 26 dX12_part_25 rfl rfl ?_
        obtain ⟨q18, hq18, hf⟩ := bind_ex hf
        refine wa_callVAv (b1 := 0) (q1 := 0) (ci := 12) (As := [.int (2 : Int32)]) C 29 dX12_part_26 rfl kv_X12_162 (c_X12_wrong hq18) ⟨rfl, rfl⟩ ⟨Nat.le_of_ble_eq_true rfl, Nat.le_of_ble_eq_true rfl⟩ rfl rfl rfl rfl rfl ⟨Nat.zero_le _, Nat.zero_le _⟩ (Nat.le_of_ble_eq_true rfl) ?_
        exact w_X12_part_J29 C q18 hf
  · replace hf := ite_t hf c2
    cases hf
    exact wa_vret C dX12_part_7 rfl
theorem kv_X12_193 : KV RX12 193 yX12_isSign cX12_isSign 2 (some .boolean) 1 := KV.mk q1717 q1719 qs62 q13 q1720 ⟨by decide, by decide, by decide +kernel⟩
def f_X12_deeper_J61 (t0 : Int32) (z0 : MS) : Option (MS) := (f_X12_wrong z0 t0).bind (fun q3 => some (q3))
def f_X12_deeper_J56 (z0 : MS) : Option (MS) := f_X12_deeper_J61 (2 : Int32) z0
def f_X12_deeper (v : MS) : Option (MS) := (if (6 : Int32) ≤ (v.1 28) then (if (v.1 14) = (2 : Int32) then f_X12_deeper_J56 v else (if (v.1 14) = (1 : Int32) then f_X12_deeper_J56 v else (f_X12_isSign v (40 : Int32)).bind (fun q5 => (if q5 = 0 then f_X12_deeper_J61 (1 : Int32) v else f_X12_deeper_J56 v)))) else bnd (upd v.1 28 ((v.1 28) + (1 : Int32)), v.2) (fun y7 => grd (vi (y7.1 28) 9) (bnd (y7.1, y7.2.1, uA y7.2.2 9 ((y7.1 28)).toNatClampNeg (vp_nar .boolean (0 : Int32))) (fun y9 => some (y9)))))
set_option maxRecDepth 20000 in
theorem w_X12_deeper_J61 {p : Program} {l : Launch} {e : Env} {s : State} {m : MethodId} {args : Array Value} {below : List Frame} {meth : Method} {c : Code} {D : va_G} {A : Nat → Prop} {dT : Nat → ClassId} {a : Nat → Nat} {res : MS} (C : Cx p s m args meth c cX12_deeper 1 RX12 none D A dT) : ∀ (t0 : Int32) (z0 : MS), f_X12_deeper_J61 t0 z0 = some res → WA p l e ({ frames := 1, cells := 0, slots := 0, locals := 21 } : Room) s m args below meth c (MQ below (QV D dT A ([wM dT a res])) args s 0 0 A) D A 0 0 1 61 ([wM dT a z0]) [] [.int t0, .ref (a 0)] := by
  intro t0 z0 hf
  unfold f_X12_deeper_J61 at hf
  obtain ⟨q3, hq3, hf⟩ := bind_ex hf
  refine wa_callVAv (b1 := 0) (q1 := 0) (ci := 12) (As := [.int t0]) C 64 dX12_deeper_61 rfl kv_X12_162 (c_X12_wrong hq3) ⟨rfl, rfl⟩ ⟨Nat.le_of_ble_eq_true rfl, Nat.le_of_ble_eq_true rfl⟩ rfl rfl rfl rfl rfl ⟨Nat.zero_le _, Nat.zero_le _⟩ (Nat.le_of_ble_eq_true rfl) ?_
  cases hf
  exact wa_vret C dX12_deeper_64 rfl
set_option maxRecDepth 20000 in
theorem w_X12_deeper_J56 {p : Program} {l : Launch} {e : Env} {s : State} {m : MethodId} {args : Array Value} {below : List Frame} {meth : Method} {c : Code} {D : va_G} {A : Nat → Prop} {dT : Nat → ClassId} {a : Nat → Nat} {res : MS} (C : Cx p s m args meth c cX12_deeper 1 RX12 none D A dT) : ∀ (z0 : MS), f_X12_deeper_J56 z0 = some res → WA p l e ({ frames := 1, cells := 0, slots := 0, locals := 21 } : Room) s m args below meth c (MQ below (QV D dT A ([wM dT a res])) args s 0 0 A) D A 0 0 1 56 ([wM dT a z0]) [] [.ref (a 0)] := by
  intro z0 hf
  unfold f_X12_deeper_J56 at hf
  refine wa_iconst (v := 2) C 57 dX12_deeper_56 rfl rfl ?_
  refine wa_goto C 61 dX12_deeper_57 rfl ?_
  exact w_X12_deeper_J61 C (2 : Int32) z0 hf
set_option maxRecDepth 20000 in
theorem c_X12_deeper {l : Launch} {D : va_G} {dT : Nat → ClassId} {a : Nat → Nat} {v : MS} {res : MS} (hf : f_X12_deeper v = some res) : CTv l yX12_deeper cX12_deeper 1 none ({ frames := 1, cells := 0, slots := 0, locals := 21 } : Room) D dT [.ref (a 0)] ([wM dT a v]) ([wM dT a res]) := by
  refine CTv.of (by decide) (Nat.le_of_ble_eq_true rfl) rfl ?_
  intro p e s m args below meth c A C
  unfold f_X12_deeper at hf
  refine wa_aload_n C 0 1 dX12_deeper_0 rfl rfl ?_
  refine wa_get C 4 0 0 28 dX12_deeper_1 rfl iX12 q1477 rfl (Nat.le_of_ble_eq_true rfl) rfl rfl rfl ?_
  refine wa_bipush (v := 6) C 6 dX12_deeper_4 rfl rfl ?_
  refine wa_icmp_ge C 30 9 dX12_deeper_6 rfl rfl (fun c1 => ?_) (fun c1 => ?_)
  · replace hf := ite_t hf c1
    refine wa_aload_n C 0 31 dX12_deeper_30 rfl rfl ?_
    refine wa_aload_n C 0 32 dX12_deeper_31 rfl rfl ?_
    refine wa_get C 35 0 0 14 dX12_deeper_32 rfl iX12 q1463 rfl (Nat.le_of_ble_eq_true rfl) rfl rfl rfl ?_
    refine wa_iconst (v := 2) C 36 dX12_deeper_35 rfl rfl ?_
    refine wa_icmp_eq C 56 39 dX12_deeper_36 rfl rfl (fun c2 => ?_) (fun c2 => ?_)
    · replace hf := ite_t hf c2
      refine wa_lv (lv' := []) [] rfl ?_
      exact w_X12_deeper_J56 C v hf
    · replace hf := ite_f hf c2
      refine wa_aload_n C 0 40 dX12_deeper_39 rfl rfl ?_
      refine wa_get C 43 0 0 14 dX12_deeper_40 rfl iX12 q1463 rfl (Nat.le_of_ble_eq_true rfl) rfl rfl rfl ?_
      refine wa_iconst (v := 1) C 44 dX12_deeper_43 rfl rfl ?_
      refine wa_icmp_eq C 56 47 dX12_deeper_44 rfl rfl (fun c4 => ?_) (fun c4 => ?_)
      · replace hf := ite_t hf c4
        refine wa_lv (lv' := []) [] rfl ?_
        exact w_X12_deeper_J56 C v hf
      · replace hf := ite_f hf c4
        refine wa_aload_n C 0 48 dX12_deeper_47 rfl rfl ?_
        refine wa_bipush (v := 40) C 50 dX12_deeper_48 rfl rfl ?_
        obtain ⟨q5, hq5, hf⟩ := bind_ex hf
        refine wa_callVAi (b1 := 0) (q1 := 0) (ci := 12) (As := [.int (40 : Int32)]) C 53 dX12_deeper_50 rfl kv_X12_193 (c_X12_isSign hq5) ⟨rfl, rfl⟩ ⟨Nat.le_of_ble_eq_true rfl, Nat.le_of_ble_eq_true rfl⟩ rfl rfl rfl rfl rfl ⟨Nat.zero_le _, Nat.zero_le _⟩ (Nat.le_of_ble_eq_true rfl) ?_
        refine wa_if_eq C 60 56 dX12_deeper_53 rfl rfl (fun c6 => ?_) (fun c6 => ?_)
        · replace hf := ite_t hf c6
          refine wa_iconst (v := 1) C 61 dX12_deeper_60 rfl rfl ?_
          refine wa_lv (lv' := []) [] rfl ?_
          exact w_X12_deeper_J61 C (1 : Int32) v hf
        · replace hf := ite_f hf c6
          refine wa_lv (lv' := []) [] rfl ?_
          exact w_X12_deeper_J56 C v hf
  · replace hf := ite_f hf c1
    refine wa_aload_n C 0 10 dX12_deeper_9 rfl rfl ?_
    refine wa_dup C 11 dX12_deeper_10 rfl rfl ?_
    refine wa_get C 14 0 0 28 dX12_deeper_11 rfl iX12 q1477 rfl (Nat.le_of_ble_eq_true rfl) rfl rfl rfl ?_
    refine wa_iconst (v := 1) C 15 dX12_deeper_14 rfl rfl ?_
    refine wa_iadd C 16 dX12_deeper_15 rfl ?_
    obtain ⟨y7, ey7, hf⟩ := bnd_ex hf
    refine wa_put (ws' := [wM dT a y7]) C 19 0 0 28 tyX12 dX12_deeper_16 rfl iX12 tyX12_ok nmX12 q1477 rfl (Nat.le_of_ble_eq_true rfl) rfl rfl rfl rfl rfl (Nat.le_of_ble_eq_true rfl) (by rw [ey7]; rfl) ?_
    refine wa_aload_n C 0 20 dX12_deeper_19 rfl rfl ?_
    refine wa_get C 23 0 0 33 dX12_deeper_20 rfl iX12 q1482 rfl (Nat.le_of_ble_eq_true rfl) rfl rfl rfl ?_
    refine wa_aload_n C 0 24 dX12_deeper_23 rfl rfl ?_
    refine wa_get C 27 0 0 28 dX12_deeper_24 rfl iX12 q1477 rfl (Nat.le_of_ble_eq_true rfl) rfl rfl rfl ?_
    refine wa_iconst (v := 0) C 28 dX12_deeper_27 rfl rfl ?_
    obtain ⟨g8, hf⟩ := grd_ex hf
    obtain ⟨y9, ey9, hf⟩ := bnd_ex hf
    refine wa_zast (ws' := [wM dT a y9]) C 29 0 9 dX12_deeper_28 rfl rfl rfl (vi_in g8) (by rw [ey9]; rfl) ?_
    cases hf
    exact wa_vret C dX12_deeper_29 rfl
theorem kv_X12_196 : KV RX12 196 yX12_waitsFor cX12_waitsFor 2 none 1 := KV.mk q1725 q1727 qs64 q13 q1728 ⟨by decide, by decide, by decide +kernel⟩
theorem kv_X12_199 : KV RX12 199 yX12_deeper cX12_deeper 1 none 0 := KV.mk q1713 q1715 qs61 q13 q1716 ⟨by decide, by decide, by decide +kernel⟩
theorem kv_X12_202 : KV RX12 202 yX12_part cX12_part 2 none 0 := KV.mk q1729 q1731 qs65 q13 q1732 ⟨by decide, by decide, by decide +kernel⟩
def f_X12_operand_J120 (z0 : MS) : Option (MS) := (f_X12_part z0).bind (fun q2 => some (q2))
def f_X12_operand_J96 (k4 : Int32 → Int32 → MS → Option (MS)) (l2 : Int32) (t0 : Int32) (z0 : MS) : Option (MS) := (if t0 = 0 then k4 l2 t0 z0 else (f_X12_waitsFor z0 (14 : Int32)).bind (fun q10 => (f_X12_takes q10).bind (fun q11 => (f_X12_deeper q11).bind (fun q12 => k4 (1 : Int32) t0 q12))))
def f_X12_operand_J95 (k4 : Int32 → Int32 → MS → Option (MS)) (l2 : Int32) (z0 : MS) : Option (MS) := f_X12_operand_J96 (k4) l2 (0 : Int32) z0
def f_X12_operand_J75 (k4 : Int32 → Int32 → MS → Option (MS)) (l2 : Int32) (z0 : MS) : Option (MS) := (f_X12_isGood z0).bind (fun q7 => (if q7 = 0 then f_X12_operand_J95 (k4) l2 z0 else (f_X12_isSign z0 (40 : Int32)).bind (fun q13 => (if q13 = 0 then f_X12_operand_J95 (k4) l2 z0 else f_X12_operand_J96 (k4) l2 (1 : Int32) z0))))
def f_X12_operand_J50 (k18 : Int32 → MS → Option (MS)) (l2 : Int32) (l4 : Int32) (z0 : MS) : Option (MS) := bnd (l4 + 1) (fun x19 => (f_X12_isGood z0).bind (fun q20 => (if q20 = 0 then k18 x19 z0 else (f_X12_waitsFor z0 (3 : Int32)).bind (fun q22 => (f_X12_takes q22).bind (fun q23 => k18 x19 q23)))))
def f_X12_operand_L18 (k4 : Int32 → Int32 → MS → Option (MS)) (l2 : Int32) : Nat → Int32 → MS → Option (MS)
  | 0, _, _ => none
  | n + 1, l4, z0 => (f_X12_isGood z0).bind (fun q5 => (if q5 = 0 then f_X12_operand_J75 (k4) l2 z0 else (if l2 = 0 then f_X12_operand_J75 (k4) l2 z0 else (f_X12_knownWord z0).bind (fun q16 => (if q16 = (15 : Int32) then (if l4 = (6 : Int32) then (f_X12_wrong z0 (2 : Int32)).bind (fun q24 => f_X12_operand_J50 (f_X12_operand_L18 k4 l2 n) l2 l4 q24) else f_X12_operand_J50 (f_X12_operand_L18 k4 l2 n) l2 l4 z0) else f_X12_operand_J75 (k4) l2 z0)))))
def f_X12_operand_L4 : Nat → Int32 → Int32 → MS → Option (MS)
  | 0, _, _, _ => none
  | n + 1, l2, l3, z0 => (if l3 = 0 then f_X12_operand_J120 z0 else (f_X12_isGood z0).bind (fun q3 => (if q3 = 0 then f_X12_operand_J120 z0 else f_X12_operand_L18 (f_X12_operand_L4 n) l2 FUEL (0 : Int32) z0)))
def f_X12_operand (v : MS) (p0 : Int32) : Option (MS) := f_X12_operand_L4 FUEL p0 (1 : Int32) v
set_option maxRecDepth 20000 in
theorem w_X12_operand_J120 {p : Program} {l : Launch} {e : Env} {s : State} {m : MethodId} {args : Array Value} {below : List Frame} {meth : Method} {c : Code} {D : va_G} {A : Nat → Prop} {dT : Nat → ClassId} {a : Nat → Nat} {res : MS} (C : Cx p s m args meth c cX12_operand 5 RX12 none D A dT) : ∀ (z0 : MS), f_X12_operand_J120 z0 = some res → WA p l e ({ frames := 4, cells := 0, slots := 0, locals := 90 } : Room) s m args below meth c (MQ below (QV D dT A ([wM dT a res])) args s 0 0 A) D A 0 0 5 120 ([wM dT a z0]) [(0, .ref (a 0))] [] := by
  intro z0 hf
  unfold f_X12_operand_J120 at hf
  refine wa_aload_n C 0 121 dX12_operand_120 rfl rfl ?_
  obtain ⟨q2, hq2, hf⟩ := bind_ex hf
  refine wa_callVAv (b1 := 0) (q1 := 0) (ci := 12) (As := []) C 124 dX12_operand_121 rfl kv_X12_202 (c_X12_part hq2) ⟨rfl, rfl⟩ ⟨Nat.le_of_ble_eq_true rfl, Nat.le_of_ble_eq_true rfl⟩ rfl rfl rfl rfl rfl ⟨Nat.zero_le _, Nat.zero_le _⟩ (Nat.le_of_ble_eq_true rfl) ?_
  cases hf
  exact wa_vret C dX12_operand_124 rfl
set_option maxRecDepth 20000 in
theorem w_X12_operand_J96 {p : Program} {l : Launch} {e : Env} {s : State} {m : MethodId} {args : Array Value} {below : List Frame} {meth : Method} {c : Code} {D : va_G} {A : Nat → Prop} {dT : Nat → ClassId} {a : Nat → Nat} {res : MS} (C : Cx p s m args meth c cX12_operand 5 RX12 none D A dT) {k4 : Int32 → Int32 → MS → Option (MS)} (hk4 : ∀ (l2 : Int32) (l3 : Int32) (z0 : MS), k4 l2 l3 z0 = some res → WA p l e ({ frames := 4, cells := 0, slots := 0, locals := 90 } : Room) s m args below meth c (MQ below (QV D dT A ([wM dT a res])) args s 0 0 A) D A 0 0 5 4 ([wM dT a z0]) [(0, .ref (a 0)), (2, .int l2), (3, .int l3)] []) : ∀ (l2 : Int32) (t0 : Int32) (z0 : MS), f_X12_operand_J96 k4 l2 t0 z0 = some res → WA p l e ({ frames := 4, cells := 0, slots := 0, locals := 90 } : Room) s m args below meth c (MQ below (QV D dT A ([wM dT a res])) args s 0 0 A) D A 0 0 5 96 ([wM dT a z0]) [(0, .ref (a 0)), (2, .int l2)] [.int t0] := by
  intro l2 t0 z0 hf
  unfold f_X12_operand_J96 at hf
  refine wa_istore_n (lv' := [(0, .ref (a 0)), (2, .int l2), (3, .int t0)]) C [1, 2, 0] 97 dX12_operand_96 rfl (Nat.le_of_ble_eq_true rfl) rfl ?_
  refine wa_iload_n C 2 98 dX12_operand_97 rfl rfl ?_
  refine wa_if_eq C 117 101 dX12_operand_98 rfl rfl (fun c9 => ?_) (fun c9 => ?_)
  · replace hf := ite_t hf c9
    refine wa_goto C 4 dX12_operand_117 rfl ?_
    exact hk4 l2 t0 z0 hf
  · replace hf := ite_f hf c9
    refine wa_aload_n C 0 102 dX12_operand_101 rfl rfl ?_
    refine wa_bipush (v := 14) C 104 dX12_operand_102 rfl rfl ?_
    obtain ⟨q10, hq10, hf⟩ := bind_ex hf
    refine wa_callVAv (b1 := 0) (q1 := 0) (ci := 12) (As := [.int (14 : Int32)]) C 107 dX12_operand_104 rfl kv_X12_196 (c_X12_waitsFor hq10) ⟨rfl, rfl⟩ ⟨Nat.le_of_ble_eq_true rfl, Nat.le_of_ble_eq_true rfl⟩ rfl rfl rfl rfl rfl ⟨Nat.zero_le _, Nat.zero_le _⟩ (Nat.le_of_ble_eq_true rfl) ?_
    refine wa_aload_n C 0 108 dX12_operand_107 rfl rfl ?_
    obtain ⟨q11, hq11, hf⟩ := bind_ex hf
    refine wa_callVAv (b1 := 0) (q1 := 0) (ci := 12) (As := []) C 111 dX12_operand_108 rfl kv_X12_159 (c_X12_takes hq11) ⟨rfl, rfl⟩ ⟨Nat.le_of_ble_eq_true rfl, Nat.le_of_ble_eq_true rfl⟩ rfl rfl rfl rfl rfl ⟨Nat.zero_le _, Nat.zero_le _⟩ (Nat.le_of_ble_eq_true rfl) ?_
    refine wa_aload_n C 0 112 dX12_operand_111 rfl rfl ?_
    obtain ⟨q12, hq12, hf⟩ := bind_ex hf
    refine wa_callVAv (b1 := 0) (q1 := 0) (ci := 12) (As := []) C 115 dX12_operand_112 rfl kv_X12_199 (c_X12_deeper hq12) ⟨rfl, rfl⟩ ⟨Nat.le_of_ble_eq_true rfl, Nat.le_of_ble_eq_true rfl⟩ rfl rfl rfl rfl rfl ⟨Nat.zero_le _, Nat.zero_le _⟩ (Nat.le_of_ble_eq_true rfl) ?_
    refine wa_iconst (v := 1) C 116 dX12_operand_115 rfl rfl ?_
    refine wa_istore_n (lv' := [(0, .ref (a 0)), (2, .int (1 : Int32)), (3, .int t0)]) C [1, 0, 2] 117 dX12_operand_116 rfl (Nat.le_of_ble_eq_true rfl) rfl ?_
    refine wa_goto C 4 dX12_operand_117 rfl ?_
    exact hk4 (1 : Int32) t0 q12 hf
set_option maxRecDepth 20000 in
theorem w_X12_operand_J95 {p : Program} {l : Launch} {e : Env} {s : State} {m : MethodId} {args : Array Value} {below : List Frame} {meth : Method} {c : Code} {D : va_G} {A : Nat → Prop} {dT : Nat → ClassId} {a : Nat → Nat} {res : MS} (C : Cx p s m args meth c cX12_operand 5 RX12 none D A dT) {k4 : Int32 → Int32 → MS → Option (MS)} (hk4 : ∀ (l2 : Int32) (l3 : Int32) (z0 : MS), k4 l2 l3 z0 = some res → WA p l e ({ frames := 4, cells := 0, slots := 0, locals := 90 } : Room) s m args below meth c (MQ below (QV D dT A ([wM dT a res])) args s 0 0 A) D A 0 0 5 4 ([wM dT a z0]) [(0, .ref (a 0)), (2, .int l2), (3, .int l3)] []) : ∀ (l2 : Int32) (z0 : MS), f_X12_operand_J95 k4 l2 z0 = some res → WA p l e ({ frames := 4, cells := 0, slots := 0, locals := 90 } : Room) s m args below meth c (MQ below (QV D dT A ([wM dT a res])) args s 0 0 A) D A 0 0 5 95 ([wM dT a z0]) [(0, .ref (a 0)), (2, .int l2)] [] := by
  intro l2 z0 hf
  unfold f_X12_operand_J95 at hf
  refine wa_iconst (v := 0) C 96 dX12_operand_95 rfl rfl ?_
  exact w_X12_operand_J96 C hk4 l2 (0 : Int32) z0 hf
set_option maxRecDepth 20000 in
theorem w_X12_operand_J75 {p : Program} {l : Launch} {e : Env} {s : State} {m : MethodId} {args : Array Value} {below : List Frame} {meth : Method} {c : Code} {D : va_G} {A : Nat → Prop} {dT : Nat → ClassId} {a : Nat → Nat} {res : MS} (C : Cx p s m args meth c cX12_operand 5 RX12 none D A dT) {k4 : Int32 → Int32 → MS → Option (MS)} (hk4 : ∀ (l2 : Int32) (l3 : Int32) (z0 : MS), k4 l2 l3 z0 = some res → WA p l e ({ frames := 4, cells := 0, slots := 0, locals := 90 } : Room) s m args below meth c (MQ below (QV D dT A ([wM dT a res])) args s 0 0 A) D A 0 0 5 4 ([wM dT a z0]) [(0, .ref (a 0)), (2, .int l2), (3, .int l3)] []) : ∀ (l2 : Int32) (z0 : MS), f_X12_operand_J75 k4 l2 z0 = some res → WA p l e ({ frames := 4, cells := 0, slots := 0, locals := 90 } : Room) s m args below meth c (MQ below (QV D dT A ([wM dT a res])) args s 0 0 A) D A 0 0 5 75 ([wM dT a z0]) [(0, .ref (a 0)), (2, .int l2)] [] := by
  intro l2 z0 hf
  unfold f_X12_operand_J75 at hf
  refine wa_aload_n C 0 76 dX12_operand_75 rfl rfl ?_
  obtain ⟨q7, hq7, hf⟩ := bind_ex hf
  refine wa_callVAi (b1 := 0) (q1 := 0) (ci := 12) (As := []) C 79 dX12_operand_76 rfl kv_X12_155 (c_X12_isGood hq7) ⟨rfl, rfl⟩ ⟨Nat.le_of_ble_eq_true rfl, Nat.le_of_ble_eq_true rfl⟩ rfl rfl rfl rfl rfl ⟨Nat.zero_le _, Nat.zero_le _⟩ (Nat.le_of_ble_eq_true rfl) ?_
  refine wa_if_eq C 95 82 dX12_operand_79 rfl rfl (fun c8 => ?_) (fun c8 => ?_)
  · replace hf := ite_t hf c8
    exact w_X12_operand_J95 C hk4 l2 z0 hf
  · replace hf := ite_f hf c8
    refine wa_aload_n C 0 83 dX12_operand_82 rfl rfl ?_
    refine wa_bipush (v := 40) C 85 dX12_operand_83 rfl rfl ?_
    obtain ⟨q13, hq13, hf⟩ := bind_ex hf
    refine wa_callVAi (b1 := 0) (q1 := 0) (ci := 12) (As := [.int (40 : Int32)]) C 88 dX12_operand_85 rfl kv_X12_193 (c_X12_isSign hq13) ⟨rfl, rfl⟩ ⟨Nat.le_of_ble_eq_true rfl, Nat.le_of_ble_eq_true rfl⟩ rfl rfl rfl rfl rfl ⟨Nat.zero_le _, Nat.zero_le _⟩ (Nat.le_of_ble_eq_true rfl) ?_
    refine wa_if_eq C 95 91 dX12_operand_88 rfl rfl (fun c14 => ?_) (fun c14 => ?_)
    · replace hf := ite_t hf c14
      exact w_X12_operand_J95 C hk4 l2 z0 hf
    · replace hf := ite_f hf c14
      refine wa_iconst (v := 1) C 92 dX12_operand_91 rfl rfl ?_
      refine wa_goto C 96 dX12_operand_92 rfl ?_
      exact w_X12_operand_J96 C hk4 l2 (1 : Int32) z0 hf
set_option maxRecDepth 20000 in
theorem w_X12_operand_J50 {p : Program} {l : Launch} {e : Env} {s : State} {m : MethodId} {args : Array Value} {below : List Frame} {meth : Method} {c : Code} {D : va_G} {A : Nat → Prop} {dT : Nat → ClassId} {a : Nat → Nat} {res : MS} {l2 : Int32} (C : Cx p s m args meth c cX12_operand 5 RX12 none D A dT) {k18 : Int32 → MS → Option (MS)} (hk18 : ∀ (l4 : Int32) (z0 : MS), k18 l4 z0 = some res → WA p l e ({ frames := 4, cells := 0, slots := 0, locals := 90 } : Room) s m args below meth c (MQ below (QV D dT A ([wM dT a res])) args s 0 0 A) D A 0 0 5 18 ([wM dT a z0]) [(0, .ref (a 0)), (2, .int l2), (4, .int l4)] []) : ∀ (l4 : Int32) (z0 : MS), f_X12_operand_J50 k18 l2 l4 z0 = some res → WA p l e ({ frames := 4, cells := 0, slots := 0, locals := 90 } : Room) s m args below meth c (MQ below (QV D dT A ([wM dT a res])) args s 0 0 A) D A 0 0 5 50 ([wM dT a z0]) [(0, .ref (a 0)), (2, .int l2), (4, .int l4)] [] := by
  intro l4 z0 hf
  unfold f_X12_operand_J50 at hf
  obtain ⟨x19, ex19, hf⟩ := bnd_ex hf
  refine wa_iinc (v := x19) (lv' := [(0, .ref (a 0)), (2, .int l2), (4, .int x19)]) C 2 [1, 2, 0] 53 dX12_operand_50 rfl rfl (by rw [ex19]; rfl) (Nat.le_of_ble_eq_true rfl) rfl ?_
  refine wa_aload_n C 0 54 dX12_operand_53 rfl rfl ?_
  obtain ⟨q20, hq20, hf⟩ := bind_ex hf
  refine wa_callVAi (b1 := 0) (q1 := 0) (ci := 12) (As := []) C 57 dX12_operand_54 rfl kv_X12_155 (c_X12_isGood hq20) ⟨rfl, rfl⟩ ⟨Nat.le_of_ble_eq_true rfl, Nat.le_of_ble_eq_true rfl⟩ rfl rfl rfl rfl rfl ⟨Nat.zero_le _, Nat.zero_le _⟩ (Nat.le_of_ble_eq_true rfl) ?_
  refine wa_if_ne C 63 60 dX12_operand_57 rfl rfl (fun c21 => ?_) (fun c21 => ?_)
  · replace hf := ite_f hf c21
    refine wa_aload_n C 0 64 dX12_operand_63 rfl rfl ?_
    refine wa_iconst (v := 3) C 65 dX12_operand_64 rfl rfl ?_
    obtain ⟨q22, hq22, hf⟩ := bind_ex hf
    refine wa_callVAv (b1 := 0) (q1 := 0) (ci := 12) (As := [.int (3 : Int32)]) C 68 dX12_operand_65 rfl kv_X12_196 (c_X12_waitsFor hq22) ⟨rfl, rfl⟩ ⟨Nat.le_of_ble_eq_true rfl, Nat.le_of_ble_eq_true rfl⟩ rfl rfl rfl rfl rfl ⟨Nat.zero_le _, Nat.zero_le _⟩ (Nat.le_of_ble_eq_true rfl) ?_
    refine wa_aload_n C 0 69 dX12_operand_68 rfl rfl ?_
    obtain ⟨q23, hq23, hf⟩ := bind_ex hf
    refine wa_callVAv (b1 := 0) (q1 := 0) (ci := 12) (As := []) C 72 dX12_operand_69 rfl kv_X12_159 (c_X12_takes hq23) ⟨rfl, rfl⟩ ⟨Nat.le_of_ble_eq_true rfl, Nat.le_of_ble_eq_true rfl⟩ rfl rfl rfl rfl rfl ⟨Nat.zero_le _, Nat.zero_le _⟩ (Nat.le_of_ble_eq_true rfl) ?_
    refine wa_goto C 18 dX12_operand_72 rfl ?_
    exact hk18 x19 q23 hf
  · replace hf := ite_t hf c21
    refine wa_goto C 18 dX12_operand_60 rfl ?_
    exact hk18 x19 z0 hf
set_option maxRecDepth 20000 in
theorem w_X12_operand_L18 {p : Program} {l : Launch} {e : Env} {s : State} {m : MethodId} {args : Array Value} {below : List Frame} {meth : Method} {c : Code} {D : va_G} {A : Nat → Prop} {dT : Nat → ClassId} {a : Nat → Nat} {res : MS} {l2 : Int32} (C : Cx p s m args meth c cX12_operand 5 RX12 none D A dT) {k4 : Int32 → Int32 → MS → Option (MS)} (hk4 : ∀ (l2 : Int32) (l3 : Int32) (z0 : MS), k4 l2 l3 z0 = some res → WA p l e ({ frames := 4, cells := 0, slots := 0, locals := 90 } : Room) s m args below meth c (MQ below (QV D dT A ([wM dT a res])) args s 0 0 A) D A 0 0 5 4 ([wM dT a z0]) [(0, .ref (a 0)), (2, .int l2), (3, .int l3)] []) : ∀ (n : Nat) (l4 : Int32) (z0 : MS), f_X12_operand_L18 k4 l2 n l4 z0 = some res → WA p l e ({ frames := 4, cells := 0, slots := 0, locals := 90 } : Room) s m args below meth c (MQ below (QV D dT A ([wM dT a res])) args s 0 0 A) D A 0 0 5 18 ([wM dT a z0]) [(0, .ref (a 0)), (2, .int l2), (4, .int l4)] [] := by
  intro n
  induction n with
  | zero => intro l4 z0 hf; cases hf
  | succ n ih =>
    intro l4 z0 hf
    unfold f_X12_operand_L18 at hf
    refine wa_aload_n C 0 19 dX12_operand_18 rfl rfl ?_
    obtain ⟨q5, hq5, hf⟩ := bind_ex hf
    refine wa_callVAi (b1 := 0) (q1 := 0) (ci := 12) (As := []) C 22 dX12_operand_19 rfl kv_X12_155 (c_X12_isGood hq5) ⟨rfl, rfl⟩ ⟨Nat.le_of_ble_eq_true rfl, Nat.le_of_ble_eq_true rfl⟩ rfl rfl rfl rfl rfl ⟨Nat.zero_le _, Nat.zero_le _⟩ (Nat.le_of_ble_eq_true rfl) ?_
    refine wa_if_eq C 75 25 dX12_operand_22 rfl rfl (fun c6 => ?_) (fun c6 => ?_)
    · replace hf := ite_t hf c6
      refine wa_lv (lv' := [(0, .ref (a 0)), (2, .int l2)]) [0, 1] rfl ?_
      exact w_X12_operand_J75 C hk4 l2 z0 hf
    · replace hf := ite_f hf c6
      refine wa_iload_n C 1 26 dX12_operand_25 rfl rfl ?_
      refine wa_if_eq C 75 29 dX12_operand_26 rfl rfl (fun c15 => ?_) (fun c15 => ?_)
      · replace hf := ite_t hf c15
        refine wa_lv (lv' := [(0, .ref (a 0)), (2, .int l2)]) [0, 1] rfl ?_
        exact w_X12_operand_J75 C hk4 l2 z0 hf
      · replace hf := ite_f hf c15
        refine wa_aload_n C 0 30 dX12_operand_29 rfl rfl ?_
        obtain ⟨q16, hq16, hf⟩ := bind_ex hf
        refine wa_callVAi (b1 := 0) (q1 := 0) (ci := 12) (As := []) C 33 dX12_operand_30 rfl kv_X12_180 (c_X12_knownWord hq16) ⟨rfl, rfl⟩ ⟨Nat.le_of_ble_eq_true rfl, Nat.le_of_ble_eq_true rfl⟩ rfl rfl rfl rfl rfl ⟨Nat.zero_le _, Nat.zero_le _⟩ (Nat.le_of_ble_eq_true rfl) ?_
        refine wa_bipush (v := 15) C 35 dX12_operand_33 rfl rfl ?_
        refine wa_icmp_ne C 75 38 dX12_operand_35 rfl rfl (fun c17 => ?_) (fun c17 => ?_)
        · replace hf := ite_f hf c17
          refine wa_lv (lv' := [(0, .ref (a 0)), (2, .int l2)]) [0, 1] rfl ?_
          exact w_X12_operand_J75 C hk4 l2 z0 hf
        · replace hf := ite_t hf c17
          refine wa_iload C 2 40 dX12_operand_38 rfl rfl ?_
          refine wa_bipush (v := 6) C 42 dX12_operand_40 rfl rfl ?_
          refine wa_icmp_ne C 50 45 dX12_operand_42 rfl rfl (fun c18 => ?_) (fun c18 => ?_)
          · replace hf := ite_f hf c18
            exact w_X12_operand_J50 C ih l4 z0 hf
          · replace hf := ite_t hf c18
            refine wa_aload_n C 0 46 dX12_operand_45 rfl rfl ?_
            refine wa_iconst (v := 2) C 47 dX12_operand_46 rfl rfl ?_
            obtain ⟨q24, hq24, hf⟩ := bind_ex hf
            refine wa_callVAv (b1 := 0) (q1 := 0) (ci := 12) (As := [.int (2 : Int32)]) C 50 dX12_operand_47 rfl kv_X12_162 (c_X12_wrong hq24) ⟨rfl, rfl⟩ ⟨Nat.le_of_ble_eq_true rfl, Nat.le_of_ble_eq_true rfl⟩ rfl rfl rfl rfl rfl ⟨Nat.zero_le _, Nat.zero_le _⟩ (Nat.le_of_ble_eq_true rfl) ?_
            exact w_X12_operand_J50 C ih l4 q24 hf
set_option maxRecDepth 20000 in
theorem w_X12_operand_L4 {p : Program} {l : Launch} {e : Env} {s : State} {m : MethodId} {args : Array Value} {below : List Frame} {meth : Method} {c : Code} {D : va_G} {A : Nat → Prop} {dT : Nat → ClassId} {a : Nat → Nat} {res : MS} (C : Cx p s m args meth c cX12_operand 5 RX12 none D A dT) : ∀ (n : Nat) (l2 : Int32) (l3 : Int32) (z0 : MS), f_X12_operand_L4 n l2 l3 z0 = some res → WA p l e ({ frames := 4, cells := 0, slots := 0, locals := 90 } : Room) s m args below meth c (MQ below (QV D dT A ([wM dT a res])) args s 0 0 A) D A 0 0 5 4 ([wM dT a z0]) [(0, .ref (a 0)), (2, .int l2), (3, .int l3)] [] := by
  intro n
  induction n with
  | zero => intro l2 l3 z0 hf; cases hf
  | succ n ih =>
    intro l2 l3 z0 hf
    unfold f_X12_operand_L4 at hf
    refine wa_iload_n C 2 5 dX12_operand_4 rfl rfl ?_
    refine wa_if_eq C 120 8 dX12_operand_5 rfl rfl (fun c1 => ?_) (fun c1 => ?_)
    · replace hf := ite_t hf c1
      refine wa_lv (lv' := [(0, .ref (a 0))]) [0] rfl ?_
      exact w_X12_operand_J120 C z0 hf
    · replace hf := ite_f hf c1
      refine wa_aload_n C 0 9 dX12_operand_8 rfl rfl ?_
      obtain ⟨q3, hq3, hf⟩ := bind_ex hf
      refine wa_callVAi (b1 := 0) (q1 := 0) (ci := 12) (As := []) C 12 dX12_operand_9 rfl kv_X12_155 (c_X12_isGood hq3) ⟨rfl, rfl⟩ ⟨Nat.le_of_ble_eq_true rfl, Nat.le_of_ble_eq_true rfl⟩ rfl rfl rfl rfl rfl ⟨Nat.zero_le _, Nat.zero_le _⟩ (Nat.le_of_ble_eq_true rfl) ?_
      refine wa_if_eq C 120 15 dX12_operand_12 rfl rfl (fun c4 => ?_) (fun c4 => ?_)
      · replace hf := ite_t hf c4
        refine wa_lv (lv' := [(0, .ref (a 0))]) [0] rfl ?_
        exact w_X12_operand_J120 C z0 hf
      · replace hf := ite_f hf c4
        refine wa_iconst (v := 0) C 16 dX12_operand_15 rfl rfl ?_
        refine wa_istore (lv' := [(0, .ref (a 0)), (2, .int l2), (3, .int l3), (4, .int (0 : Int32))]) C [1, 2, 3, 0] 18 dX12_operand_16 rfl (Nat.le_of_ble_eq_true rfl) rfl ?_
        refine wa_lv (lv' := [(0, .ref (a 0)), (2, .int l2), (4, .int (0 : Int32))]) [0, 1, 3] rfl ?_
        exact w_X12_operand_L18 C ih FUEL (0 : Int32) z0 hf
set_option maxRecDepth 20000 in
theorem c_X12_operand {l : Launch} {D : va_G} {dT : Nat → ClassId} {a : Nat → Nat} {v : MS} {p0 : Int32} {res : MS} (hf : f_X12_operand v p0 = some res) : CTv l yX12_operand cX12_operand 5 none ({ frames := 4, cells := 0, slots := 0, locals := 90 } : Room) D dT [.ref (a 0), .int p0] ([wM dT a v]) ([wM dT a res]) := by
  refine CTv.of (by decide) (Nat.le_of_ble_eq_true rfl) rfl ?_
  intro p e s m args below meth c A C
  unfold f_X12_operand at hf
  refine wa_iload_n C 1 1 dX12_operand_0 rfl rfl ?_
  refine wa_istore_n (lv' := [(0, .ref (a 0)), (1, .int p0), (2, .int p0)]) C [1, 2, 0] 2 dX12_operand_1 rfl (Nat.le_of_ble_eq_true rfl) rfl ?_
  refine wa_iconst (v := 1) C 3 dX12_operand_2 rfl rfl ?_
  refine wa_istore_n (lv' := [(0, .ref (a 0)), (1, .int p0), (2, .int p0), (3, .int (1 : Int32))]) C [1, 2, 3, 0] 4 dX12_operand_3 rfl (Nat.le_of_ble_eq_true rfl) rfl ?_
  refine wa_lv (lv' := [(0, .ref (a 0)), (2, .int p0), (3, .int (1 : Int32))]) [0, 2, 3] rfl ?_
  exact w_X12_operand_L4 C FUEL p0 (1 : Int32) v hf
def f_X12_isOpened_J29 (z0 : MS) (l1 : Int32) : Option (Int32) := (if l1 < 0 then some ((0 : Int32)) else some ((1 : Int32)))
def f_X12_isOpened_L7 (z0 : MS) : Nat → Int32 → Option (Int32)
  | 0, _ => none
  | n + 1, l1 => (if l1 < 0 then f_X12_isOpened_J29 z0 l1 else grd (vi l1 950) ((f_X12_isOpen (z0.2.2 8 (l1).toNatClampNeg)).bind (fun q5 => (if q5 = 0 then bnd (l1 + (-1)) (fun x7 => f_X12_isOpened_L7 z0 n x7) else f_X12_isOpened_J29 z0 l1))))
def f_X12_isOpened (v : MS) : Option (Int32) := bnd ((v.1 27) - (1 : Int32)) (fun x1 => f_X12_isOpened_L7 v FUEL x1)
set_option maxRecDepth 20000 in
theorem w_X12_isOpened_J29 {p : Program} {l : Launch} {e : Env} {s : State} {m : MethodId} {args : Array Value} {below : List Frame} {meth : Method} {c : Code} {D : va_G} {A : Nat → Prop} {dT : Nat → ClassId} {a : Nat → Nat} {res : Int32} {z0 : MS} (C : Cx p s m args meth c cX12_isOpened 2 RX12 (some .boolean) D A dT) : ∀ (l1 : Int32), f_X12_isOpened_J29 z0 l1 = some res → WA p l e ({ frames := 1, cells := 0, slots := 0, locals := 20 } : Room) s m args below meth c (MQ below (QI D dT A ([wM dT a z0]) res) args s 0 0 A) D A 0 0 2 29 ([wM dT a z0]) [(1, .int l1)] [] := by
  intro l1 hf
  unfold f_X12_isOpened_J29 at hf
  refine wa_iload_n C 0 30 dX12_isOpened_29 rfl rfl ?_
  refine wa_if_lt C 37 33 dX12_isOpened_30 rfl rfl (fun c3 => ?_) (fun c3 => ?_)
  · replace hf := ite_t hf c3
    refine wa_iconst (v := 0) C 38 dX12_isOpened_37 rfl rfl ?_
    cases hf
    exact wa_zret C dX12_isOpened_38 rfl rfl rfl
  · replace hf := ite_f hf c3
    refine wa_iconst (v := 1) C 34 dX12_isOpened_33 rfl rfl ?_
    refine wa_goto C 38 dX12_isOpened_34 rfl ?_
    cases hf
    exact wa_zret C dX12_isOpened_38 rfl rfl rfl
set_option maxRecDepth 20000 in
theorem w_X12_isOpened_L7 {p : Program} {l : Launch} {e : Env} {s : State} {m : MethodId} {args : Array Value} {below : List Frame} {meth : Method} {c : Code} {D : va_G} {A : Nat → Prop} {dT : Nat → ClassId} {a : Nat → Nat} {res : Int32} {z0 : MS} (C : Cx p s m args meth c cX12_isOpened 2 RX12 (some .boolean) D A dT) : ∀ (n : Nat) (l1 : Int32), f_X12_isOpened_L7 z0 n l1 = some res → WA p l e ({ frames := 1, cells := 0, slots := 0, locals := 20 } : Room) s m args below meth c (MQ below (QI D dT A ([wM dT a z0]) res) args s 0 0 A) D A 0 0 2 7 ([wM dT a z0]) [(0, .ref (a 0)), (1, .int l1)] [] := by
  intro n
  induction n with
  | zero => intro l1 hf; cases hf
  | succ n ih =>
    intro l1 hf
    unfold f_X12_isOpened_L7 at hf
    refine wa_iload_n C 1 8 dX12_isOpened_7 rfl rfl ?_
    refine wa_if_lt C 29 11 dX12_isOpened_8 rfl rfl (fun c2 => ?_) (fun c2 => ?_)
    · replace hf := ite_t hf c2
      refine wa_lv (lv' := [(1, .int l1)]) [1] rfl ?_
      exact w_X12_isOpened_J29 C l1 hf
    · replace hf := ite_f hf c2
      refine wa_aload_n C 0 12 dX12_isOpened_11 rfl rfl ?_
      refine wa_get C 15 0 0 32 dX12_isOpened_12 rfl iX12 q1481 rfl (Nat.le_of_ble_eq_true rfl) rfl rfl rfl ?_
      refine wa_iload_n C 1 16 dX12_isOpened_15 rfl rfl ?_
      obtain ⟨g4, hf⟩ := grd_ex hf
      refine wa_iald C 17 0 8 dX12_isOpened_16 rfl rfl rfl (vi_in g4) ?_
      obtain ⟨q5, hq5, hf⟩ := bind_ex hf
      refine wa_callS0i (As := [.int (z0.2.2 8 (l1).toNatClampNeg)]) C 20 dX12_isOpened_17 rfl ks_X12_171 (c_X12_isOpen hq5) ⟨rfl, rfl⟩ ⟨Nat.le_of_ble_eq_true rfl, Nat.le_of_ble_eq_true rfl⟩ rfl rfl ⟨Nat.zero_le _, Nat.zero_le _⟩ (Nat.le_of_ble_eq_true rfl) ?_
      refine wa_if_ne C 29 23 dX12_isOpened_20 rfl rfl (fun c6 => ?_) (fun c6 => ?_)
      · replace hf := ite_f hf c6
        refine wa_lv (lv' := [(1, .int l1)]) [1] rfl ?_
        exact w_X12_isOpened_J29 C l1 hf
      · replace hf := ite_t hf c6
        obtain ⟨x7, ex7, hf⟩ := bnd_ex hf
        refine wa_iinc (v := x7) (lv' := [(0, .ref (a 0)), (1, .int x7)]) C 1 [1, 0] 26 dX12_isOpened_23 rfl rfl (by rw [ex7]; rfl) (Nat.le_of_ble_eq_true rfl) rfl ?_
        refine wa_goto C 7 dX12_isOpened_26 rfl ?_
        exact ih x7 hf
set_option maxRecDepth 20000 in
theorem c_X12_isOpened {l : Launch} {D : va_G} {dT : Nat → ClassId} {a : Nat → Nat} {v : MS} {res : Int32} (hf : f_X12_isOpened v = some res) : CTi l yX12_isOpened cX12_isOpened 2 (some .boolean) ({ frames := 1, cells := 0, slots := 0, locals := 20 } : Room) D dT [.ref (a 0)] ([wM dT a v]) ([wM dT a v]) res := by
  refine CTi.of (by decide) (Nat.le_of_ble_eq_true rfl) rfl ?_
  intro p e s m args below meth c A C
  unfold f_X12_isOpened at hf
  refine wa_aload_n C 0 1 dX12_isOpened_0 rfl rfl ?_
  refine wa_get C 4 0 0 27 dX12_isOpened_1 rfl iX12 q1476 rfl (Nat.le_of_ble_eq_true rfl) rfl rfl rfl ?_
  refine wa_iconst (v := 1) C 5 dX12_isOpened_4 rfl rfl ?_
  refine wa_isub C 6 dX12_isOpened_5 rfl ?_
  obtain ⟨x1, ex1, hf⟩ := bnd_ex hf
  refine wa_topi ex1 ?_
  refine wa_istore_n (lv' := [(0, .ref (a 0)), (1, .int x1)]) C [1, 0] 7 dX12_isOpened_6 rfl (Nat.le_of_ble_eq_true rfl) rfl ?_
  exact w_X12_isOpened_L7 C FUEL x1 hf
theorem kv_X12_205 : KV RX12 205 yX12_drops cX12_drops 2 none 1 := KV.mk q1737 q1739 qs67 q13 q1740 ⟨by decide, by decide, by decide +kernel⟩
def f_X12_closes (v : MS) : Option (MS) := (f_X12_drops v (0 : Int32)).bind (fun q1 => bnd (upd q1.1 27 ((q1.1 27) - (1 : Int32)), q1.2) (fun y2 => bnd (upd y2.1 28 ((y2.1 28) - (1 : Int32)), y2.2) (fun y3 => (f_X12_takes y3).bind (fun q4 => some (q4)))))
set_option maxRecDepth 20000 in
theorem c_X12_closes {l : Launch} {D : va_G} {dT : Nat → ClassId} {a : Nat → Nat} {v : MS} {res : MS} (hf : f_X12_closes v = some res) : CTv l yX12_closes cX12_closes 1 none ({ frames := 2, cells := 0, slots := 0, locals := 42 } : Room) D dT [.ref (a 0)] ([wM dT a v]) ([wM dT a res]) := by
  refine CTv.of (by decide) (Nat.le_of_ble_eq_true rfl) rfl ?_
  intro p e s m args below meth c A C
  unfold f_X12_closes at hf
  refine wa_aload_n C 0 1 dX12_closes_0 rfl rfl ?_
  refine wa_iconst (v := 0) C 2 dX12_closes_1 rfl rfl ?_
  obtain ⟨q1, hq1, hf⟩ := bind_ex hf
  refine wa_callVAv (b1 := 0) (q1 := 0) (ci := 12) (As := [.int (0 : Int32)]) C 5 dX12_closes_2 rfl kv_X12_205 (c_X12_drops hq1) ⟨rfl, rfl⟩ ⟨Nat.le_of_ble_eq_true rfl, Nat.le_of_ble_eq_true rfl⟩ rfl rfl rfl rfl rfl ⟨Nat.zero_le _, Nat.zero_le _⟩ (Nat.le_of_ble_eq_true rfl) ?_
  refine wa_aload_n C 0 6 dX12_closes_5 rfl rfl ?_
  refine wa_dup C 7 dX12_closes_6 rfl rfl ?_
  refine wa_get C 10 0 0 27 dX12_closes_7 rfl iX12 q1476 rfl (Nat.le_of_ble_eq_true rfl) rfl rfl rfl ?_
  refine wa_iconst (v := 1) C 11 dX12_closes_10 rfl rfl ?_
  refine wa_isub C 12 dX12_closes_11 rfl ?_
  obtain ⟨y2, ey2, hf⟩ := bnd_ex hf
  refine wa_put (ws' := [wM dT a y2]) C 15 0 0 27 tyX12 dX12_closes_12 rfl iX12 tyX12_ok nmX12 q1476 rfl (Nat.le_of_ble_eq_true rfl) rfl rfl rfl rfl rfl (Nat.le_of_ble_eq_true rfl) (by rw [ey2]; rfl) ?_
  refine wa_aload_n C 0 16 dX12_closes_15 rfl rfl ?_
  refine wa_dup C 17 dX12_closes_16 rfl rfl ?_
  refine wa_get C 20 0 0 28 dX12_closes_17 rfl iX12 q1477 rfl (Nat.le_of_ble_eq_true rfl) rfl rfl rfl ?_
  refine wa_iconst (v := 1) C 21 dX12_closes_20 rfl rfl ?_
  refine wa_isub C 22 dX12_closes_21 rfl ?_
  obtain ⟨y3, ey3, hf⟩ := bnd_ex hf
  refine wa_put (ws' := [wM dT a y3]) C 25 0 0 28 tyX12 dX12_closes_22 rfl iX12 tyX12_ok nmX12 q1477 rfl (Nat.le_of_ble_eq_true rfl) rfl rfl rfl rfl rfl (Nat.le_of_ble_eq_true rfl) (by rw [ey3]; rfl) ?_
  refine wa_aload_n C 0 26 dX12_closes_25 rfl rfl ?_
  obtain ⟨q4, hq4, hf⟩ := bind_ex hf
  refine wa_callVAv (b1 := 0) (q1 := 0) (ci := 12) (As := []) C 29 dX12_closes_26 rfl kv_X12_159 (c_X12_takes hq4) ⟨rfl, rfl⟩ ⟨Nat.le_of_ble_eq_true rfl, Nat.le_of_ble_eq_true rfl⟩ rfl rfl rfl rfl rfl ⟨Nat.zero_le _, Nat.zero_le _⟩ (Nat.le_of_ble_eq_true rfl) ?_
  cases hf
  exact wa_vret C dX12_closes_29 rfl
theorem kv_X12_208 : KV RX12 208 yX12_operand cX12_operand 5 none 1 := KV.mk q1721 q1723 qs63 q13 q1724 ⟨by decide, by decide, by decide +kernel⟩
theorem kv_X12_212 : KV RX12 212 yX12_isOpened cX12_isOpened 2 (some .boolean) 0 := KV.mk q1747 q1749 qs68 q13 q1750 ⟨by decide, by decide, by decide +kernel⟩
theorem kv_X12_215 : KV RX12 215 yX12_closes cX12_closes 1 none 0 := KV.mk q1751 q1753 qs69 q13 q1754 ⟨by decide, by decide, by decide +kernel⟩
def f_X12_expression_J360 (z0 : MS) : Option (MS) := (f_X12_drops z0 (0 : Int32)).bind (fun q12 => (f_X12_puts q12 (0 : Int32)).bind (fun q13 => some (q13)))
def f_X12_expression_J340 (z0 : MS) : Option (MS) := (f_X12_isGood z0).bind (fun q10 => (if q10 = 0 then f_X12_expression_J360 z0 else (if (z0.1 28) ≤ (1 : Int32) then f_X12_expression_J360 z0 else (f_X12_wrong z0 (1 : Int32)).bind (fun q15 => f_X12_expression_J360 q15))))
def f_X12_expression_J99 (k39 : Int32 → MS → Option (MS)) (l3 : Int32) (t0 : Int32) (z0 : MS) : Option (MS) := (f_X12_waitsFor z0 t0).bind (fun q23 => grd (vi (q23.1 28) 9) (bnd (q23.1, q23.2.1, uA q23.2.2 9 ((q23.1 28)).toNatClampNeg (vp_nar .boolean (0 : Int32))) (fun y25 => (f_X12_takes y25).bind (fun q26 => (f_X12_operand q26 (1 : Int32)).bind (fun q27 => k39 l3 q27)))))
def f_X12_expression_J83 (k39 : Int32 → MS → Option (MS)) (l3 : Int32) (l4 : Int32) (t0 : Int32) (z0 : MS) : Option (MS) := (f_X12_drops z0 t0).bind (fun q21 => (if l4 = (13 : Int32) then f_X12_expression_J99 (k39) l3 (4 : Int32) q21 else f_X12_expression_J99 (k39) l3 (5 : Int32) q21))
def f_X12_expression_J70 (k39 : Int32 → MS → Option (MS)) (l3 : Int32) (l4 : Int32) (z0 : MS) : Option (MS) := (if l4 = (13 : Int32) then f_X12_expression_J83 (k39) l3 l4 (2 : Int32) z0 else f_X12_expression_J83 (k39) l3 l4 (1 : Int32) z0)
def f_X12_expression_J241 (k39 : Int32 → MS → Option (MS)) (l3 : Int32) (t0 : Int32) (z0 : MS) : Option (MS) := (f_X12_waitsFor z0 t0).bind (fun q38 => (f_X12_takes q38).bind (fun q39 => (f_X12_operand q39 (0 : Int32)).bind (fun q40 => k39 l3 q40)))
def f_X12_expression_J219 (k39 : Int32 → MS → Option (MS)) (l3 : Int32) (z0 : MS) : Option (MS) := (f_X12_drops z0 (5 : Int32)).bind (fun q35 => (f_X12_isSign q35 (43 : Int32)).bind (fun q36 => (if q36 = 0 then f_X12_expression_J241 (k39) l3 (9 : Int32) q35 else f_X12_expression_J241 (k39) l3 (8 : Int32) q35)))
def f_X12_expression_J297 (k39 : Int32 → MS → Option (MS)) (l3 : Int32) (t0 : Int32) (z0 : MS) : Option (MS) := (f_X12_waitsFor z0 t0).bind (fun q48 => (f_X12_takes q48).bind (fun q49 => (f_X12_operand q49 (0 : Int32)).bind (fun q50 => k39 l3 q50)))
def f_X12_expression_J274 (k39 : Int32 → MS → Option (MS)) (l3 : Int32) (z0 : MS) : Option (MS) := (f_X12_drops z0 (6 : Int32)).bind (fun q45 => (f_X12_isSign q45 (42 : Int32)).bind (fun q46 => (if q46 = 0 then f_X12_expression_J297 (k39) l3 (11 : Int32) q45 else f_X12_expression_J297 (k39) l3 (10 : Int32) q45)))
def f_X12_expression_J201 (k39 : Int32 → MS → Option (MS)) (l3 : Int32) (z0 : MS) : Option (MS) := (f_X12_isSign z0 (43 : Int32)).bind (fun q33 => (if q33 = 0 then (f_X12_isSign z0 (45 : Int32)).bind (fun q41 => (if q41 = 0 then (f_X12_isSign z0 (42 : Int32)).bind (fun q43 => (if q43 = 0 then (f_X12_isSign z0 (47 : Int32)).bind (fun q51 => (if q51 = 0 then (f_X12_isSign z0 (41 : Int32)).bind (fun q53 => (if q53 = 0 then k39 (0 : Int32) z0 else (f_X12_isOpened z0).bind (fun q55 => (if q55 = 0 then k39 (0 : Int32) z0 else (f_X12_closes z0).bind (fun q57 => k39 l3 q57))))) else f_X12_expression_J274 (k39) l3 z0)) else f_X12_expression_J274 (k39) l3 z0)) else f_X12_expression_J219 (k39) l3 z0)) else f_X12_expression_J219 (k39) l3 z0))
def f_X12_expression_J176 (k39 : Int32 → MS → Option (MS)) (l3 : Int32) (t0 : Int32) (z0 : MS) : Option (MS) := (f_X12_waitsFor z0 t0).bind (fun q61 => grd (vi (q61.1 28) 9) (bnd (q61.1, q61.2.1, uA q61.2.2 9 ((q61.1 28)).toNatClampNeg (vp_nar .boolean (1 : Int32))) (fun y63 => (f_X12_takes y63).bind (fun q64 => (f_X12_operand q64 (0 : Int32)).bind (fun q65 => k39 l3 q65)))))
def f_X12_expression_J142 (k39 : Int32 → MS → Option (MS)) (l3 : Int32) (z0 : MS) : Option (MS) := grd (vi (z0.1 28) 9) ((if (z0.2.2 9 ((z0.1 28)).toNatClampNeg) = 0 then (f_X12_drops z0 (4 : Int32)).bind (fun q58 => (f_X12_isSign q58 (60 : Int32)).bind (fun q59 => (if q59 = 0 then f_X12_expression_J176 (k39) l3 (7 : Int32) q58 else f_X12_expression_J176 (k39) l3 (6 : Int32) q58))) else f_X12_expression_J201 (k39) l3 z0))
def f_X12_expression_L39 : Nat → Int32 → MS → Option (MS)
  | 0, _, _ => none
  | n + 1, l3, z0 => (if l3 = 0 then f_X12_expression_J340 z0 else (f_X12_isGood z0).bind (fun q16 => (if q16 = 0 then f_X12_expression_J340 z0 else (f_X12_knownWord z0).bind (fun q18 => (if q18 = (13 : Int32) then f_X12_expression_J70 (f_X12_expression_L39 n) l3 q18 z0 else (if q18 = (14 : Int32) then f_X12_expression_J70 (f_X12_expression_L39 n) l3 q18 z0 else (f_X12_isSign z0 (60 : Int32)).bind (fun q29 => (if q29 = 0 then (f_X12_isSign z0 (61 : Int32)).bind (fun q66 => (if q66 = 0 then f_X12_expression_J201 (f_X12_expression_L39 n) l3 z0 else f_X12_expression_J142 (f_X12_expression_L39 n) l3 z0)) else f_X12_expression_J142 (f_X12_expression_L39 n) l3 z0))))))))
def f_X12_expression (v : MS) (p0 : Int32) (p1 : Int32) : Option (MS) := (f_X12_isGood v).bind (fun q1 => (if q1 = 0 then some (v) else bnd (upd v.1 25 p0, v.2) (fun y3 => bnd (upd y3.1 26 p1, y3.2) (fun y4 => bnd (upd y4.1 27 (0 : Int32), y4.2) (fun y5 => bnd (upd y5.1 28 (0 : Int32), y5.2) (fun y6 => (f_X12_deeper y6).bind (fun q7 => (f_X12_operand q7 (1 : Int32)).bind (fun q8 => f_X12_expression_L39 FUEL (1 : Int32) q8))))))))
set_option maxRecDepth 20000 in
theorem w_X12_expression_J360 {p : Program} {l : Launch} {e : Env} {s : State} {m : MethodId} {args : Array Value} {below : List Frame} {meth : Method} {c : Code} {D : va_G} {A : Nat → Prop} {dT : Nat → ClassId} {a : Nat → Nat} {res : MS} (C : Cx p s m args meth c cX12_expression 5 RX12 none D A dT) : ∀ (z0 : MS), f_X12_expression_J360 z0 = some res → WA p l e ({ frames := 5, cells := 0, slots := 0, locals := 114 } : Room) s m args below meth c (MQ below (QV D dT A ([wM dT a res])) args s 0 0 A) D A 0 0 5 360 ([wM dT a z0]) [(0, .ref (a 0))] [] := by
  intro z0 hf
  unfold f_X12_expression_J360 at hf
  refine wa_aload_n C 0 361 dX12_expression_360 rfl rfl ?_
  refine wa_iconst (v := 0) C 362 dX12_expression_361 rfl rfl ?_
  obtain ⟨q12, hq12, hf⟩ := bind_ex hf
  refine wa_callVAv (b1 := 0) (q1 := 0) (ci := 12) (As := [.int (0 : Int32)]) C 365 dX12_expression_362 rfl kv_X12_205 (c_X12_drops hq12) ⟨rfl, rfl⟩ ⟨Nat.le_of_ble_eq_true rfl, Nat.le_of_ble_eq_true rfl⟩ rfl rfl rfl rfl rfl ⟨Nat.zero_le _, Nat.zero_le _⟩ (Nat.le_of_ble_eq_true rfl) ?_
  refine wa_aload_n C 0 366 dX12_expression_365 rfl rfl ?_
  refine wa_iconst (v := 0) C 367 dX12_expression_366 rfl rfl ?_
  obtain ⟨q13, hq13, hf⟩ := bind_ex hf
  refine wa_callVAv (b1 := 0) (q1 := 0) (ci := 12) (As := [.int (0 : Int32)]) C 370 dX12_expression_367 rfl kv_X12_177 (c_X12_puts hq13) ⟨rfl, rfl⟩ ⟨Nat.le_of_ble_eq_true rfl, Nat.le_of_ble_eq_true rfl⟩ rfl rfl rfl rfl rfl ⟨Nat.zero_le _, Nat.zero_le _⟩ (Nat.le_of_ble_eq_true rfl) ?_
  cases hf
  exact wa_vret C dX12_expression_370 rfl
set_option maxRecDepth 20000 in
theorem w_X12_expression_J340 {p : Program} {l : Launch} {e : Env} {s : State} {m : MethodId} {args : Array Value} {below : List Frame} {meth : Method} {c : Code} {D : va_G} {A : Nat → Prop} {dT : Nat → ClassId} {a : Nat → Nat} {res : MS} (C : Cx p s m args meth c cX12_expression 5 RX12 none D A dT) : ∀ (z0 : MS), f_X12_expression_J340 z0 = some res → WA p l e ({ frames := 5, cells := 0, slots := 0, locals := 114 } : Room) s m args below meth c (MQ below (QV D dT A ([wM dT a res])) args s 0 0 A) D A 0 0 5 340 ([wM dT a z0]) [(0, .ref (a 0))] [] := by
  intro z0 hf
  unfold f_X12_expression_J340 at hf
  refine wa_aload_n C 0 341 dX12_expression_340 rfl rfl ?_
  obtain ⟨q10, hq10, hf⟩ := bind_ex hf
  refine wa_callVAi (b1 := 0) (q1 := 0) (ci := 12) (As := []) C 344 dX12_expression_341 rfl kv_X12_155 (c_X12_isGood hq10) ⟨rfl, rfl⟩ ⟨Nat.le_of_ble_eq_true rfl, Nat.le_of_ble_eq_true rfl⟩ rfl rfl rfl rfl rfl ⟨Nat.zero_le _, Nat.zero_le _⟩ (Nat.le_of_ble_eq_true rfl) ?_
  refine wa_if_eq C 360 347 dX12_expression_344 rfl rfl (fun c11 => ?_) (fun c11 => ?_)
  · replace hf := ite_t hf c11
    exact w_X12_expression_J360 C z0 hf
  · replace hf := ite_f hf c11
    refine wa_aload_n C 0 348 dX12_expression_347 rfl rfl ?_
    refine wa_get C 351 0 0 28 dX12_expression_348 rfl iX12 q1477 rfl (Nat.le_of_ble_eq_true rfl) rfl rfl rfl ?_
    refine wa_iconst (v := 1) C 352 dX12_expression_351 rfl rfl ?_
    refine wa_icmp_le C 360 355 dX12_expression_352 rfl rfl (fun c14 => ?_) (fun c14 => ?_)
    · replace hf := ite_t hf c14
      exact w_X12_expression_J360 C z0 hf
    · replace hf := ite_f hf c14
      refine wa_aload_n C 0 356 dX12_expression_355 rfl rfl ?_
      refine wa_iconst (v := 1) C 357 dX12_expression_356 rfl rfl ?_
      obtain ⟨q15, hq15, hf⟩ := bind_ex hf
      refine wa_callVAv (b1 := 0) (q1 := 0) (ci := 12) (As := [.int (1 : Int32)]) C 360 dX12_expression_357 rfl kv_X12_162 (c_X12_wrong hq15) ⟨rfl, rfl⟩ ⟨Nat.le_of_ble_eq_true rfl, Nat.le_of_ble_eq_true rfl⟩ rfl rfl rfl rfl rfl ⟨Nat.zero_le _, Nat.zero_le _⟩ (Nat.le_of_ble_eq_true rfl) ?_
      exact w_X12_expression_J360 C q15 hf
set_option maxRecDepth 20000 in
theorem w_X12_expression_J99 {p : Program} {l : Launch} {e : Env} {s : State} {m : MethodId} {args : Array Value} {below : List Frame} {meth : Method} {c : Code} {D : va_G} {A : Nat → Prop} {dT : Nat → ClassId} {a : Nat → Nat} {res : MS} (C : Cx p s m args meth c cX12_expression 5 RX12 none D A dT) {k39 : Int32 → MS → Option (MS)} (hk39 : ∀ (l3 : Int32) (z0 : MS), k39 l3 z0 = some res → WA p l e ({ frames := 5, cells := 0, slots := 0, locals := 114 } : Room) s m args below meth c (MQ below (QV D dT A ([wM dT a res])) args s 0 0 A) D A 0 0 5 39 ([wM dT a z0]) [(0, .ref (a 0)), (3, .int l3)] []) : ∀ (l3 : Int32) (t0 : Int32) (z0 : MS), f_X12_expression_J99 k39 l3 t0 z0 = some res → WA p l e ({ frames := 5, cells := 0, slots := 0, locals := 114 } : Room) s m args below meth c (MQ below (QV D dT A ([wM dT a res])) args s 0 0 A) D A 0 0 5 99 ([wM dT a z0]) [(0, .ref (a 0)), (3, .int l3)] [.int t0, .ref (a 0)] := by
  intro l3 t0 z0 hf
  unfold f_X12_expression_J99 at hf
  obtain ⟨q23, hq23, hf⟩ := bind_ex hf
  refine wa_callVAv (b1 := 0) (q1 := 0) (ci := 12) (As := [.int t0]) C 102 dX12_expression_99 rfl kv_X12_196 (c_X12_waitsFor hq23) ⟨rfl, rfl⟩ ⟨Nat.le_of_ble_eq_true rfl, Nat.le_of_ble_eq_true rfl⟩ rfl rfl rfl rfl rfl ⟨Nat.zero_le _, Nat.zero_le _⟩ (Nat.le_of_ble_eq_true rfl) ?_
  refine wa_aload_n C 0 103 dX12_expression_102 rfl rfl ?_
  refine wa_get C 106 0 0 33 dX12_expression_103 rfl iX12 q1482 rfl (Nat.le_of_ble_eq_true rfl) rfl rfl rfl ?_
  refine wa_aload_n C 0 107 dX12_expression_106 rfl rfl ?_
  refine wa_get C 110 0 0 28 dX12_expression_107 rfl iX12 q1477 rfl (Nat.le_of_ble_eq_true rfl) rfl rfl rfl ?_
  refine wa_iconst (v := 0) C 111 dX12_expression_110 rfl rfl ?_
  obtain ⟨g24, hf⟩ := grd_ex hf
  obtain ⟨y25, ey25, hf⟩ := bnd_ex hf
  refine wa_zast (ws' := [wM dT a y25]) C 112 0 9 dX12_expression_111 rfl rfl rfl (vi_in g24) (by rw [ey25]; rfl) ?_
  refine wa_aload_n C 0 113 dX12_expression_112 rfl rfl ?_
  obtain ⟨q26, hq26, hf⟩ := bind_ex hf
  refine wa_callVAv (b1 := 0) (q1 := 0) (ci := 12) (As := []) C 116 dX12_expression_113 rfl kv_X12_159 (c_X12_takes hq26) ⟨rfl, rfl⟩ ⟨Nat.le_of_ble_eq_true rfl, Nat.le_of_ble_eq_true rfl⟩ rfl rfl rfl rfl rfl ⟨Nat.zero_le _, Nat.zero_le _⟩ (Nat.le_of_ble_eq_true rfl) ?_
  refine wa_aload_n C 0 117 dX12_expression_116 rfl rfl ?_
  refine wa_iconst (v := 1) C 118 dX12_expression_117 rfl rfl ?_
  obtain ⟨q27, hq27, hf⟩ := bind_ex hf
  refine wa_callVAv (b1 := 0) (q1 := 0) (ci := 12) (As := [.int (1 : Int32)]) C 121 dX12_expression_118 rfl kv_X12_208 (c_X12_operand hq27) ⟨rfl, rfl⟩ ⟨Nat.le_of_ble_eq_true rfl, Nat.le_of_ble_eq_true rfl⟩ rfl rfl rfl rfl rfl ⟨Nat.zero_le _, Nat.zero_le _⟩ (Nat.le_of_ble_eq_true rfl) ?_
  refine wa_goto C 337 dX12_expression_121 rfl ?_
  refine wa_goto C 39 dX12_expression_337 rfl ?_
  exact hk39 l3 q27 hf
set_option maxRecDepth 20000 in
theorem w_X12_expression_J83 {p : Program} {l : Launch} {e : Env} {s : State} {m : MethodId} {args : Array Value} {below : List Frame} {meth : Method} {c : Code} {D : va_G} {A : Nat → Prop} {dT : Nat → ClassId} {a : Nat → Nat} {res : MS} (C : Cx p s m args meth c cX12_expression 5 RX12 none D A dT) {k39 : Int32 → MS → Option (MS)} (hk39 : ∀ (l3 : Int32) (z0 : MS), k39 l3 z0 = some res → WA p l e ({ frames := 5, cells := 0, slots := 0, locals := 114 } : Room) s m args below meth c (MQ below (QV D dT A ([wM dT a res])) args s 0 0 A) D A 0 0 5 39 ([wM dT a z0]) [(0, .ref (a 0)), (3, .int l3)] []) : ∀ (l3 : Int32) (l4 : Int32) (t0 : Int32) (z0 : MS), f_X12_expression_J83 k39 l3 l4 t0 z0 = some res → WA p l e ({ frames := 5, cells := 0, slots := 0, locals := 114 } : Room) s m args below meth c (MQ below (QV D dT A ([wM dT a res])) args s 0 0 A) D A 0 0 5 83 ([wM dT a z0]) [(0, .ref (a 0)), (3, .int l3), (4, .int l4)] [.int t0, .ref (a 0)] := by
  intro l3 l4 t0 z0 hf
  unfold f_X12_expression_J83 at hf
  obtain ⟨q21, hq21, hf⟩ := bind_ex hf
  refine wa_callVAv (b1 := 0) (q1 := 0) (ci := 12) (As := [.int t0]) C 86 dX12_expression_83 rfl kv_X12_205 (c_X12_drops hq21) ⟨rfl, rfl⟩ ⟨Nat.le_of_ble_eq_true rfl, Nat.le_of_ble_eq_true rfl⟩ rfl rfl rfl rfl rfl ⟨Nat.zero_le _, Nat.zero_le _⟩ (Nat.le_of_ble_eq_true rfl) ?_
  refine wa_aload_n C 0 87 dX12_expression_86 rfl rfl ?_
  refine wa_iload C 2 89 dX12_expression_87 rfl rfl ?_
  refine wa_bipush (v := 13) C 91 dX12_expression_89 rfl rfl ?_
  refine wa_icmp_ne C 98 94 dX12_expression_91 rfl rfl (fun c22 => ?_) (fun c22 => ?_)
  · replace hf := ite_f hf c22
    refine wa_iconst (v := 5) C 99 dX12_expression_98 rfl rfl ?_
    refine wa_lv (lv' := [(0, .ref (a 0)), (3, .int l3)]) [0, 1] rfl ?_
    exact w_X12_expression_J99 C hk39 l3 (5 : Int32) q21 hf
  · replace hf := ite_t hf c22
    refine wa_iconst (v := 4) C 95 dX12_expression_94 rfl rfl ?_
    refine wa_goto C 99 dX12_expression_95 rfl ?_
    refine wa_lv (lv' := [(0, .ref (a 0)), (3, .int l3)]) [0, 1] rfl ?_
    exact w_X12_expression_J99 C hk39 l3 (4 : Int32) q21 hf
set_option maxRecDepth 20000 in
theorem w_X12_expression_J70 {p : Program} {l : Launch} {e : Env} {s : State} {m : MethodId} {args : Array Value} {below : List Frame} {meth : Method} {c : Code} {D : va_G} {A : Nat → Prop} {dT : Nat → ClassId} {a : Nat → Nat} {res : MS} (C : Cx p s m args meth c cX12_expression 5 RX12 none D A dT) {k39 : Int32 → MS → Option (MS)} (hk39 : ∀ (l3 : Int32) (z0 : MS), k39 l3 z0 = some res → WA p l e ({ frames := 5, cells := 0, slots := 0, locals := 114 } : Room) s m args below meth c (MQ below (QV D dT A ([wM dT a res])) args s 0 0 A) D A 0 0 5 39 ([wM dT a z0]) [(0, .ref (a 0)), (3, .int l3)] []) : ∀ (l3 : Int32) (l4 : Int32) (z0 : MS), f_X12_expression_J70 k39 l3 l4 z0 = some res → WA p l e ({ frames := 5, cells := 0, slots := 0, locals := 114 } : Room) s m args below meth c (MQ below (QV D dT A ([wM dT a res])) args s 0 0 A) D A 0 0 5 70 ([wM dT a z0]) [(0, .ref (a 0)), (3, .int l3), (4, .int l4)] [] := by
  intro l3 l4 z0 hf
  unfold f_X12_expression_J70 at hf
  refine wa_aload_n C 0 71 dX12_expression_70 rfl rfl ?_
  refine wa_iload C 2 73 dX12_expression_71 rfl rfl ?_
  refine wa_bipush (v := 13) C 75 dX12_expression_73 rfl rfl ?_
  refine wa_icmp_ne C 82 78 dX12_expression_75 rfl rfl (fun c20 => ?_) (fun c20 => ?_)
  · replace hf := ite_f hf c20
    refine wa_iconst (v := 1) C 83 dX12_expression_82 rfl rfl ?_
    exact w_X12_expression_J83 C hk39 l3 l4 (1 : Int32) z0 hf
  · replace hf := ite_t hf c20
    refine wa_iconst (v := 2) C 79 dX12_expression_78 rfl rfl ?_
    refine wa_goto C 83 dX12_expression_79 rfl ?_
    exact w_X12_expression_J83 C hk39 l3 l4 (2 : Int32) z0 hf
set_option maxRecDepth 20000 in
theorem w_X12_expression_J241 {p : Program} {l : Launch} {e : Env} {s : State} {m : MethodId} {args : Array Value} {below : List Frame} {meth : Method} {c : Code} {D : va_G} {A : Nat → Prop} {dT : Nat → ClassId} {a : Nat → Nat} {res : MS} (C : Cx p s m args meth c cX12_expression 5 RX12 none D A dT) {k39 : Int32 → MS → Option (MS)} (hk39 : ∀ (l3 : Int32) (z0 : MS), k39 l3 z0 = some res → WA p l e ({ frames := 5, cells := 0, slots := 0, locals := 114 } : Room) s m args below meth c (MQ below (QV D dT A ([wM dT a res])) args s 0 0 A) D A 0 0 5 39 ([wM dT a z0]) [(0, .ref (a 0)), (3, .int l3)] []) : ∀ (l3 : Int32) (t0 : Int32) (z0 : MS), f_X12_expression_J241 k39 l3 t0 z0 = some res → WA p l e ({ frames := 5, cells := 0, slots := 0, locals := 114 } : Room) s m args below meth c (MQ below (QV D dT A ([wM dT a res])) args s 0 0 A) D A 0 0 5 241 ([wM dT a z0]) [(0, .ref (a 0)), (3, .int l3)] [.int t0, .ref (a 0)] := by
  intro l3 t0 z0 hf
  unfold f_X12_expression_J241 at hf
  obtain ⟨q38, hq38, hf⟩ := bind_ex hf
  refine wa_callVAv (b1 := 0) (q1 := 0) (ci := 12) (As := [.int t0]) C 244 dX12_expression_241 rfl kv_X12_196 (c_X12_waitsFor hq38) ⟨rfl, rfl⟩ ⟨Nat.le_of_ble_eq_true rfl, Nat.le_of_ble_eq_true rfl⟩ rfl rfl rfl rfl rfl ⟨Nat.zero_le _, Nat.zero_le _⟩ (Nat.le_of_ble_eq_true rfl) ?_
  refine wa_aload_n C 0 245 dX12_expression_244 rfl rfl ?_
  obtain ⟨q39, hq39, hf⟩ := bind_ex hf
  refine wa_callVAv (b1 := 0) (q1 := 0) (ci := 12) (As := []) C 248 dX12_expression_245 rfl kv_X12_159 (c_X12_takes hq39) ⟨rfl, rfl⟩ ⟨Nat.le_of_ble_eq_true rfl, Nat.le_of_ble_eq_true rfl⟩ rfl rfl rfl rfl rfl ⟨Nat.zero_le _, Nat.zero_le _⟩ (Nat.le_of_ble_eq_true rfl) ?_
  refine wa_aload_n C 0 249 dX12_expression_248 rfl rfl ?_
  refine wa_iconst (v := 0) C 250 dX12_expression_249 rfl rfl ?_
  obtain ⟨q40, hq40, hf⟩ := bind_ex hf
  refine wa_callVAv (b1 := 0) (q1 := 0) (ci := 12) (As := [.int (0 : Int32)]) C 253 dX12_expression_250 rfl kv_X12_208 (c_X12_operand hq40) ⟨rfl, rfl⟩ ⟨Nat.le_of_ble_eq_true rfl, Nat.le_of_ble_eq_true rfl⟩ rfl rfl rfl rfl rfl ⟨Nat.zero_le _, Nat.zero_le _⟩ (Nat.le_of_ble_eq_true rfl) ?_
  refine wa_goto C 337 dX12_expression_253 rfl ?_
  refine wa_goto C 39 dX12_expression_337 rfl ?_
  exact hk39 l3 q40 hf
set_option maxRecDepth 20000 in
theorem w_X12_expression_J219 {p : Program} {l : Launch} {e : Env} {s : State} {m : MethodId} {args : Array Value} {below : List Frame} {meth : Method} {c : Code} {D : va_G} {A : Nat → Prop} {dT : Nat → ClassId} {a : Nat → Nat} {res : MS} (C : Cx p s m args meth c cX12_expression 5 RX12 none D A dT) {k39 : Int32 → MS → Option (MS)} (hk39 : ∀ (l3 : Int32) (z0 : MS), k39 l3 z0 = some res → WA p l e ({ frames := 5, cells := 0, slots := 0, locals := 114 } : Room) s m args below meth c (MQ below (QV D dT A ([wM dT a res])) args s 0 0 A) D A 0 0 5 39 ([wM dT a z0]) [(0, .ref (a 0)), (3, .int l3)] []) : ∀ (l3 : Int32) (z0 : MS), f_X12_expression_J219 k39 l3 z0 = some res → WA p l e ({ frames := 5, cells := 0, slots := 0, locals := 114 } : Room) s m args below meth c (MQ below (QV D dT A ([wM dT a res])) args s 0 0 A) D A 0 0 5 219 ([wM dT a z0]) [(0, .ref (a 0)), (3, .int l3)] [] := by
  intro l3 z0 hf
  unfold f_X12_expression_J219 at hf
  refine wa_aload_n C 0 220 dX12_expression_219 rfl rfl ?_
  refine wa_iconst (v := 5) C 221 dX12_expression_220 rfl rfl ?_
  obtain ⟨q35, hq35, hf⟩ := bind_ex hf
  refine wa_callVAv (b1 := 0) (q1 := 0) (ci := 12) (As := [.int (5 : Int32)]) C 224 dX12_expression_221 rfl kv_X12_205 (c_X12_drops hq35) ⟨rfl, rfl⟩ ⟨Nat.le_of_ble_eq_true rfl, Nat.le_of_ble_eq_true rfl⟩ rfl rfl rfl rfl rfl ⟨Nat.zero_le _, Nat.zero_le _⟩ (Nat.le_of_ble_eq_true rfl) ?_
  refine wa_aload_n C 0 225 dX12_expression_224 rfl rfl ?_
  refine wa_aload_n C 0 226 dX12_expression_225 rfl rfl ?_
  refine wa_bipush (v := 43) C 228 dX12_expression_226 rfl rfl ?_
  obtain ⟨q36, hq36, hf⟩ := bind_ex hf
  refine wa_callVAi (b1 := 0) (q1 := 0) (ci := 12) (As := [.int (43 : Int32)]) C 231 dX12_expression_228 rfl kv_X12_193 (c_X12_isSign hq36) ⟨rfl, rfl⟩ ⟨Nat.le_of_ble_eq_true rfl, Nat.le_of_ble_eq_true rfl⟩ rfl rfl rfl rfl rfl ⟨Nat.zero_le _, Nat.zero_le _⟩ (Nat.le_of_ble_eq_true rfl) ?_
  refine wa_if_eq C 239 234 dX12_expression_231 rfl rfl (fun c37 => ?_) (fun c37 => ?_)
  · replace hf := ite_t hf c37
    refine wa_bipush (v := 9) C 241 dX12_expression_239 rfl rfl ?_
    exact w_X12_expression_J241 C hk39 l3 (9 : Int32) q35 hf
  · replace hf := ite_f hf c37
    refine wa_bipush (v := 8) C 236 dX12_expression_234 rfl rfl ?_
    refine wa_goto C 241 dX12_expression_236 rfl ?_
    exact w_X12_expression_J241 C hk39 l3 (8 : Int32) q35 hf
set_option maxRecDepth 20000 in
theorem w_X12_expression_J297 {p : Program} {l : Launch} {e : Env} {s : State} {m : MethodId} {args : Array Value} {below : List Frame} {meth : Method} {c : Code} {D : va_G} {A : Nat → Prop} {dT : Nat → ClassId} {a : Nat → Nat} {res : MS} (C : Cx p s m args meth c cX12_expression 5 RX12 none D A dT) {k39 : Int32 → MS → Option (MS)} (hk39 : ∀ (l3 : Int32) (z0 : MS), k39 l3 z0 = some res → WA p l e ({ frames := 5, cells := 0, slots := 0, locals := 114 } : Room) s m args below meth c (MQ below (QV D dT A ([wM dT a res])) args s 0 0 A) D A 0 0 5 39 ([wM dT a z0]) [(0, .ref (a 0)), (3, .int l3)] []) : ∀ (l3 : Int32) (t0 : Int32) (z0 : MS), f_X12_expression_J297 k39 l3 t0 z0 = some res → WA p l e ({ frames := 5, cells := 0, slots := 0, locals := 114 } : Room) s m args below meth c (MQ below (QV D dT A ([wM dT a res])) args s 0 0 A) D A 0 0 5 297 ([wM dT a z0]) [(0, .ref (a 0)), (3, .int l3)] [.int t0, .ref (a 0)] := by
  intro l3 t0 z0 hf
  unfold f_X12_expression_J297 at hf
  obtain ⟨q48, hq48, hf⟩ := bind_ex hf
  refine wa_callVAv (b1 := 0) (q1 := 0) (ci := 12) (As := [.int t0]) C 300 dX12_expression_297 rfl kv_X12_196 (c_X12_waitsFor hq48) ⟨rfl, rfl⟩ ⟨Nat.le_of_ble_eq_true rfl, Nat.le_of_ble_eq_true rfl⟩ rfl rfl rfl rfl rfl ⟨Nat.zero_le _, Nat.zero_le _⟩ (Nat.le_of_ble_eq_true rfl) ?_
  refine wa_aload_n C 0 301 dX12_expression_300 rfl rfl ?_
  obtain ⟨q49, hq49, hf⟩ := bind_ex hf
  refine wa_callVAv (b1 := 0) (q1 := 0) (ci := 12) (As := []) C 304 dX12_expression_301 rfl kv_X12_159 (c_X12_takes hq49) ⟨rfl, rfl⟩ ⟨Nat.le_of_ble_eq_true rfl, Nat.le_of_ble_eq_true rfl⟩ rfl rfl rfl rfl rfl ⟨Nat.zero_le _, Nat.zero_le _⟩ (Nat.le_of_ble_eq_true rfl) ?_
  refine wa_aload_n C 0 305 dX12_expression_304 rfl rfl ?_
  refine wa_iconst (v := 0) C 306 dX12_expression_305 rfl rfl ?_
  obtain ⟨q50, hq50, hf⟩ := bind_ex hf
  refine wa_callVAv (b1 := 0) (q1 := 0) (ci := 12) (As := [.int (0 : Int32)]) C 309 dX12_expression_306 rfl kv_X12_208 (c_X12_operand hq50) ⟨rfl, rfl⟩ ⟨Nat.le_of_ble_eq_true rfl, Nat.le_of_ble_eq_true rfl⟩ rfl rfl rfl rfl rfl ⟨Nat.zero_le _, Nat.zero_le _⟩ (Nat.le_of_ble_eq_true rfl) ?_
  refine wa_goto C 337 dX12_expression_309 rfl ?_
  refine wa_goto C 39 dX12_expression_337 rfl ?_
  exact hk39 l3 q50 hf
set_option maxRecDepth 20000 in
theorem w_X12_expression_J274 {p : Program} {l : Launch} {e : Env} {s : State} {m : MethodId} {args : Array Value} {below : List Frame} {meth : Method} {c : Code} {D : va_G} {A : Nat → Prop} {dT : Nat → ClassId} {a : Nat → Nat} {res : MS} (C : Cx p s m args meth c cX12_expression 5 RX12 none D A dT) {k39 : Int32 → MS → Option (MS)} (hk39 : ∀ (l3 : Int32) (z0 : MS), k39 l3 z0 = some res → WA p l e ({ frames := 5, cells := 0, slots := 0, locals := 114 } : Room) s m args below meth c (MQ below (QV D dT A ([wM dT a res])) args s 0 0 A) D A 0 0 5 39 ([wM dT a z0]) [(0, .ref (a 0)), (3, .int l3)] []) : ∀ (l3 : Int32) (z0 : MS), f_X12_expression_J274 k39 l3 z0 = some res → WA p l e ({ frames := 5, cells := 0, slots := 0, locals := 114 } : Room) s m args below meth c (MQ below (QV D dT A ([wM dT a res])) args s 0 0 A) D A 0 0 5 274 ([wM dT a z0]) [(0, .ref (a 0)), (3, .int l3)] [] := by
  intro l3 z0 hf
  unfold f_X12_expression_J274 at hf
  refine wa_aload_n C 0 275 dX12_expression_274 rfl rfl ?_
  refine wa_bipush (v := 6) C 277 dX12_expression_275 rfl rfl ?_
  obtain ⟨q45, hq45, hf⟩ := bind_ex hf
  refine wa_callVAv (b1 := 0) (q1 := 0) (ci := 12) (As := [.int (6 : Int32)]) C 280 dX12_expression_277 rfl kv_X12_205 (c_X12_drops hq45) ⟨rfl, rfl⟩ ⟨Nat.le_of_ble_eq_true rfl, Nat.le_of_ble_eq_true rfl⟩ rfl rfl rfl rfl rfl ⟨Nat.zero_le _, Nat.zero_le _⟩ (Nat.le_of_ble_eq_true rfl) ?_
  refine wa_aload_n C 0 281 dX12_expression_280 rfl rfl ?_
  refine wa_aload_n C 0 282 dX12_expression_281 rfl rfl ?_
  refine wa_bipush (v := 42) C 284 dX12_expression_282 rfl rfl ?_
  obtain ⟨q46, hq46, hf⟩ := bind_ex hf
  refine wa_callVAi (b1 := 0) (q1 := 0) (ci := 12) (As := [.int (42 : Int32)]) C 287 dX12_expression_284 rfl kv_X12_193 (c_X12_isSign hq46) ⟨rfl, rfl⟩ ⟨Nat.le_of_ble_eq_true rfl, Nat.le_of_ble_eq_true rfl⟩ rfl rfl rfl rfl rfl ⟨Nat.zero_le _, Nat.zero_le _⟩ (Nat.le_of_ble_eq_true rfl) ?_
  refine wa_if_eq C 295 290 dX12_expression_287 rfl rfl (fun c47 => ?_) (fun c47 => ?_)
  · replace hf := ite_t hf c47
    refine wa_bipush (v := 11) C 297 dX12_expression_295 rfl rfl ?_
    exact w_X12_expression_J297 C hk39 l3 (11 : Int32) q45 hf
  · replace hf := ite_f hf c47
    refine wa_bipush (v := 10) C 292 dX12_expression_290 rfl rfl ?_
    refine wa_goto C 297 dX12_expression_292 rfl ?_
    exact w_X12_expression_J297 C hk39 l3 (10 : Int32) q45 hf
set_option maxRecDepth 20000 in
theorem w_X12_expression_J201 {p : Program} {l : Launch} {e : Env} {s : State} {m : MethodId} {args : Array Value} {below : List Frame} {meth : Method} {c : Code} {D : va_G} {A : Nat → Prop} {dT : Nat → ClassId} {a : Nat → Nat} {res : MS} (C : Cx p s m args meth c cX12_expression 5 RX12 none D A dT) {k39 : Int32 → MS → Option (MS)} (hk39 : ∀ (l3 : Int32) (z0 : MS), k39 l3 z0 = some res → WA p l e ({ frames := 5, cells := 0, slots := 0, locals := 114 } : Room) s m args below meth c (MQ below (QV D dT A ([wM dT a res])) args s 0 0 A) D A 0 0 5 39 ([wM dT a z0]) [(0, .ref (a 0)), (3, .int l3)] []) : ∀ (l3 : Int32) (z0 : MS), f_X12_expression_J201 k39 l3 z0 = some res → WA p l e ({ frames := 5, cells := 0, slots := 0, locals := 114 } : Room) s m args below meth c (MQ below (QV D dT A ([wM dT a res])) args s 0 0 A) D A 0 0 5 201 ([wM dT a z0]) [(0, .ref (a 0)), (3, .int l3)] [] := by
  intro l3 z0 hf
  unfold f_X12_expression_J201 at hf
  refine wa_aload_n C 0 202 dX12_expression_201 rfl rfl ?_
  refine wa_bipush (v := 43) C 204 dX12_expression_202 rfl rfl ?_
  obtain ⟨q33, hq33, hf⟩ := bind_ex hf
  refine wa_callVAi (b1 := 0) (q1 := 0) (ci := 12) (As := [.int (43 : Int32)]) C 207 dX12_expression_204 rfl kv_X12_193 (c_X12_isSign hq33) ⟨rfl, rfl⟩ ⟨Nat.le_of_ble_eq_true rfl, Nat.le_of_ble_eq_true rfl⟩ rfl rfl rfl rfl rfl ⟨Nat.zero_le _, Nat.zero_le _⟩ (Nat.le_of_ble_eq_true rfl) ?_
  refine wa_if_ne C 219 210 dX12_expression_207 rfl rfl (fun c34 => ?_) (fun c34 => ?_)
  · replace hf := ite_f hf c34
    exact w_X12_expression_J219 C hk39 l3 z0 hf
  · replace hf := ite_t hf c34
    refine wa_aload_n C 0 211 dX12_expression_210 rfl rfl ?_
    refine wa_bipush (v := 45) C 213 dX12_expression_211 rfl rfl ?_
    obtain ⟨q41, hq41, hf⟩ := bind_ex hf
    refine wa_callVAi (b1 := 0) (q1 := 0) (ci := 12) (As := [.int (45 : Int32)]) C 216 dX12_expression_213 rfl kv_X12_193 (c_X12_isSign hq41) ⟨rfl, rfl⟩ ⟨Nat.le_of_ble_eq_true rfl, Nat.le_of_ble_eq_true rfl⟩ rfl rfl rfl rfl rfl ⟨Nat.zero_le _, Nat.zero_le _⟩ (Nat.le_of_ble_eq_true rfl) ?_
    refine wa_if_eq C 256 219 dX12_expression_216 rfl rfl (fun c42 => ?_) (fun c42 => ?_)
    · replace hf := ite_t hf c42
      refine wa_aload_n C 0 257 dX12_expression_256 rfl rfl ?_
      refine wa_bipush (v := 42) C 259 dX12_expression_257 rfl rfl ?_
      obtain ⟨q43, hq43, hf⟩ := bind_ex hf
      refine wa_callVAi (b1 := 0) (q1 := 0) (ci := 12) (As := [.int (42 : Int32)]) C 262 dX12_expression_259 rfl kv_X12_193 (c_X12_isSign hq43) ⟨rfl, rfl⟩ ⟨Nat.le_of_ble_eq_true rfl, Nat.le_of_ble_eq_true rfl⟩ rfl rfl rfl rfl rfl ⟨Nat.zero_le _, Nat.zero_le _⟩ (Nat.le_of_ble_eq_true rfl) ?_
      refine wa_if_ne C 274 265 dX12_expression_262 rfl rfl (fun c44 => ?_) (fun c44 => ?_)
      · replace hf := ite_f hf c44
        exact w_X12_expression_J274 C hk39 l3 z0 hf
      · replace hf := ite_t hf c44
        refine wa_aload_n C 0 266 dX12_expression_265 rfl rfl ?_
        refine wa_bipush (v := 47) C 268 dX12_expression_266 rfl rfl ?_
        obtain ⟨q51, hq51, hf⟩ := bind_ex hf
        refine wa_callVAi (b1 := 0) (q1 := 0) (ci := 12) (As := [.int (47 : Int32)]) C 271 dX12_expression_268 rfl kv_X12_193 (c_X12_isSign hq51) ⟨rfl, rfl⟩ ⟨Nat.le_of_ble_eq_true rfl, Nat.le_of_ble_eq_true rfl⟩ rfl rfl rfl rfl rfl ⟨Nat.zero_le _, Nat.zero_le _⟩ (Nat.le_of_ble_eq_true rfl) ?_
        refine wa_if_eq C 312 274 dX12_expression_271 rfl rfl (fun c52 => ?_) (fun c52 => ?_)
        · replace hf := ite_t hf c52
          refine wa_aload_n C 0 313 dX12_expression_312 rfl rfl ?_
          refine wa_bipush (v := 41) C 315 dX12_expression_313 rfl rfl ?_
          obtain ⟨q53, hq53, hf⟩ := bind_ex hf
          refine wa_callVAi (b1 := 0) (q1 := 0) (ci := 12) (As := [.int (41 : Int32)]) C 318 dX12_expression_315 rfl kv_X12_193 (c_X12_isSign hq53) ⟨rfl, rfl⟩ ⟨Nat.le_of_ble_eq_true rfl, Nat.le_of_ble_eq_true rfl⟩ rfl rfl rfl rfl rfl ⟨Nat.zero_le _, Nat.zero_le _⟩ (Nat.le_of_ble_eq_true rfl) ?_
          refine wa_if_eq C 335 321 dX12_expression_318 rfl rfl (fun c54 => ?_) (fun c54 => ?_)
          · replace hf := ite_t hf c54
            refine wa_iconst (v := 0) C 336 dX12_expression_335 rfl rfl ?_
            refine wa_istore_n (lv' := [(0, .ref (a 0)), (3, .int (0 : Int32))]) C [1, 0] 337 dX12_expression_336 rfl (Nat.le_of_ble_eq_true rfl) rfl ?_
            refine wa_goto C 39 dX12_expression_337 rfl ?_
            exact hk39 (0 : Int32) z0 hf
          · replace hf := ite_f hf c54
            refine wa_aload_n C 0 322 dX12_expression_321 rfl rfl ?_
            obtain ⟨q55, hq55, hf⟩ := bind_ex hf
            refine wa_callVAi (b1 := 0) (q1 := 0) (ci := 12) (As := []) C 325 dX12_expression_322 rfl kv_X12_212 (c_X12_isOpened hq55) ⟨rfl, rfl⟩ ⟨Nat.le_of_ble_eq_true rfl, Nat.le_of_ble_eq_true rfl⟩ rfl rfl rfl rfl rfl ⟨Nat.zero_le _, Nat.zero_le _⟩ (Nat.le_of_ble_eq_true rfl) ?_
            refine wa_if_eq C 335 328 dX12_expression_325 rfl rfl (fun c56 => ?_) (fun c56 => ?_)
            · replace hf := ite_t hf c56
              refine wa_iconst (v := 0) C 336 dX12_expression_335 rfl rfl ?_
              refine wa_istore_n (lv' := [(0, .ref (a 0)), (3, .int (0 : Int32))]) C [1, 0] 337 dX12_expression_336 rfl (Nat.le_of_ble_eq_true rfl) rfl ?_
              refine wa_goto C 39 dX12_expression_337 rfl ?_
              exact hk39 (0 : Int32) z0 hf
            · replace hf := ite_f hf c56
              refine wa_aload_n C 0 329 dX12_expression_328 rfl rfl ?_
              obtain ⟨q57, hq57, hf⟩ := bind_ex hf
              refine wa_callVAv (b1 := 0) (q1 := 0) (ci := 12) (As := []) C 332 dX12_expression_329 rfl kv_X12_215 (c_X12_closes hq57) ⟨rfl, rfl⟩ ⟨Nat.le_of_ble_eq_true rfl, Nat.le_of_ble_eq_true rfl⟩ rfl rfl rfl rfl rfl ⟨Nat.zero_le _, Nat.zero_le _⟩ (Nat.le_of_ble_eq_true rfl) ?_
              refine wa_goto C 337 dX12_expression_332 rfl ?_
              refine wa_goto C 39 dX12_expression_337 rfl ?_
              exact hk39 l3 q57 hf
        · replace hf := ite_f hf c52
          exact w_X12_expression_J274 C hk39 l3 z0 hf
    · replace hf := ite_f hf c42
      exact w_X12_expression_J219 C hk39 l3 z0 hf
set_option maxRecDepth 20000 in
theorem w_X12_expression_J176 {p : Program} {l : Launch} {e : Env} {s : State} {m : MethodId} {args : Array Value} {below : List Frame} {meth : Method} {c : Code} {D : va_G} {A : Nat → Prop} {dT : Nat → ClassId} {a : Nat → Nat} {res : MS} (C : Cx p s m args meth c cX12_expression 5 RX12 none D A dT) {k39 : Int32 → MS → Option (MS)} (hk39 : ∀ (l3 : Int32) (z0 : MS), k39 l3 z0 = some res → WA p l e ({ frames := 5, cells := 0, slots := 0, locals := 114 } : Room) s m args below meth c (MQ below (QV D dT A ([wM dT a res])) args s 0 0 A) D A 0 0 5 39 ([wM dT a z0]) [(0, .ref (a 0)), (3, .int l3)] []) : ∀ (l3 : Int32) (t0 : Int32) (z0 : MS), f_X12_expression_J176 k39 l3 t0 z0 = some res → WA p l e ({ frames := 5, cells := 0, slots := 0, locals := 114 } : Room) s m args below meth c (MQ below (QV D dT A ([wM dT a res])) args s 0 0 A) D A 0 0 5 176 ([wM dT a z0]) [(0, .ref (a 0)), (3, .int l3)] [.int t0, .ref (a 0)] := by
  intro l3 t0 z0 hf
  unfold f_X12_expression_J176 at hf
  obtain ⟨q61, hq61, hf⟩ := bind_ex hf
  refine wa_callVAv (b1 := 0) (q1 := 0) (ci := 12) (As := [.int t0]) C 179 dX12_expression_176 rfl kv_X12_196 (c_X12_waitsFor hq61) ⟨rfl, rfl⟩ ⟨Nat.le_of_ble_eq_true rfl, Nat.le_of_ble_eq_true rfl⟩ rfl rfl rfl rfl rfl ⟨Nat.zero_le _, Nat.zero_le _⟩ (Nat.le_of_ble_eq_true rfl) ?_
  refine wa_aload_n C 0 180 dX12_expression_179 rfl rfl ?_
  refine wa_get C 183 0 0 33 dX12_expression_180 rfl iX12 q1482 rfl (Nat.le_of_ble_eq_true rfl) rfl rfl rfl ?_
  refine wa_aload_n C 0 184 dX12_expression_183 rfl rfl ?_
  refine wa_get C 187 0 0 28 dX12_expression_184 rfl iX12 q1477 rfl (Nat.le_of_ble_eq_true rfl) rfl rfl rfl ?_
  refine wa_iconst (v := 1) C 188 dX12_expression_187 rfl rfl ?_
  obtain ⟨g62, hf⟩ := grd_ex hf
  obtain ⟨y63, ey63, hf⟩ := bnd_ex hf
  refine wa_zast (ws' := [wM dT a y63]) C 189 0 9 dX12_expression_188 rfl rfl rfl (vi_in g62) (by rw [ey63]; rfl) ?_
  refine wa_aload_n C 0 190 dX12_expression_189 rfl rfl ?_
  obtain ⟨q64, hq64, hf⟩ := bind_ex hf
  refine wa_callVAv (b1 := 0) (q1 := 0) (ci := 12) (As := []) C 193 dX12_expression_190 rfl kv_X12_159 (c_X12_takes hq64) ⟨rfl, rfl⟩ ⟨Nat.le_of_ble_eq_true rfl, Nat.le_of_ble_eq_true rfl⟩ rfl rfl rfl rfl rfl ⟨Nat.zero_le _, Nat.zero_le _⟩ (Nat.le_of_ble_eq_true rfl) ?_
  refine wa_aload_n C 0 194 dX12_expression_193 rfl rfl ?_
  refine wa_iconst (v := 0) C 195 dX12_expression_194 rfl rfl ?_
  obtain ⟨q65, hq65, hf⟩ := bind_ex hf
  refine wa_callVAv (b1 := 0) (q1 := 0) (ci := 12) (As := [.int (0 : Int32)]) C 198 dX12_expression_195 rfl kv_X12_208 (c_X12_operand hq65) ⟨rfl, rfl⟩ ⟨Nat.le_of_ble_eq_true rfl, Nat.le_of_ble_eq_true rfl⟩ rfl rfl rfl rfl rfl ⟨Nat.zero_le _, Nat.zero_le _⟩ (Nat.le_of_ble_eq_true rfl) ?_
  refine wa_goto C 337 dX12_expression_198 rfl ?_
  refine wa_goto C 39 dX12_expression_337 rfl ?_
  exact hk39 l3 q65 hf
set_option maxRecDepth 20000 in
theorem w_X12_expression_J142 {p : Program} {l : Launch} {e : Env} {s : State} {m : MethodId} {args : Array Value} {below : List Frame} {meth : Method} {c : Code} {D : va_G} {A : Nat → Prop} {dT : Nat → ClassId} {a : Nat → Nat} {res : MS} (C : Cx p s m args meth c cX12_expression 5 RX12 none D A dT) {k39 : Int32 → MS → Option (MS)} (hk39 : ∀ (l3 : Int32) (z0 : MS), k39 l3 z0 = some res → WA p l e ({ frames := 5, cells := 0, slots := 0, locals := 114 } : Room) s m args below meth c (MQ below (QV D dT A ([wM dT a res])) args s 0 0 A) D A 0 0 5 39 ([wM dT a z0]) [(0, .ref (a 0)), (3, .int l3)] []) : ∀ (l3 : Int32) (z0 : MS), f_X12_expression_J142 k39 l3 z0 = some res → WA p l e ({ frames := 5, cells := 0, slots := 0, locals := 114 } : Room) s m args below meth c (MQ below (QV D dT A ([wM dT a res])) args s 0 0 A) D A 0 0 5 142 ([wM dT a z0]) [(0, .ref (a 0)), (3, .int l3)] [] := by
  intro l3 z0 hf
  unfold f_X12_expression_J142 at hf
  refine wa_aload_n C 0 143 dX12_expression_142 rfl rfl ?_
  refine wa_get C 146 0 0 33 dX12_expression_143 rfl iX12 q1482 rfl (Nat.le_of_ble_eq_true rfl) rfl rfl rfl ?_
  refine wa_aload_n C 0 147 dX12_expression_146 rfl rfl ?_
  refine wa_get C 150 0 0 28 dX12_expression_147 rfl iX12 q1477 rfl (Nat.le_of_ble_eq_true rfl) rfl rfl rfl ?_
  obtain ⟨g31, hf⟩ := grd_ex hf
  refine wa_zald C 151 0 9 dX12_expression_150 rfl rfl rfl (vi_in g31) ?_
  refine wa_if_ne C 201 154 dX12_expression_151 rfl rfl (fun c32 => ?_) (fun c32 => ?_)
  · replace hf := ite_f hf c32
    exact w_X12_expression_J201 C hk39 l3 z0 hf
  · replace hf := ite_t hf c32
    refine wa_aload_n C 0 155 dX12_expression_154 rfl rfl ?_
    refine wa_iconst (v := 4) C 156 dX12_expression_155 rfl rfl ?_
    obtain ⟨q58, hq58, hf⟩ := bind_ex hf
    refine wa_callVAv (b1 := 0) (q1 := 0) (ci := 12) (As := [.int (4 : Int32)]) C 159 dX12_expression_156 rfl kv_X12_205 (c_X12_drops hq58) ⟨rfl, rfl⟩ ⟨Nat.le_of_ble_eq_true rfl, Nat.le_of_ble_eq_true rfl⟩ rfl rfl rfl rfl rfl ⟨Nat.zero_le _, Nat.zero_le _⟩ (Nat.le_of_ble_eq_true rfl) ?_
    refine wa_aload_n C 0 160 dX12_expression_159 rfl rfl ?_
    refine wa_aload_n C 0 161 dX12_expression_160 rfl rfl ?_
    refine wa_bipush (v := 60) C 163 dX12_expression_161 rfl rfl ?_
    obtain ⟨q59, hq59, hf⟩ := bind_ex hf
    refine wa_callVAi (b1 := 0) (q1 := 0) (ci := 12) (As := [.int (60 : Int32)]) C 166 dX12_expression_163 rfl kv_X12_193 (c_X12_isSign hq59) ⟨rfl, rfl⟩ ⟨Nat.le_of_ble_eq_true rfl, Nat.le_of_ble_eq_true rfl⟩ rfl rfl rfl rfl rfl ⟨Nat.zero_le _, Nat.zero_le _⟩ (Nat.le_of_ble_eq_true rfl) ?_
    refine wa_if_eq C 174 169 dX12_expression_166 rfl rfl (fun c60 => ?_) (fun c60 => ?_)
    · replace hf := ite_t hf c60
      refine wa_bipush (v := 7) C 176 dX12_expression_174 rfl rfl ?_
      exact w_X12_expression_J176 C hk39 l3 (7 : Int32) q58 hf
    · replace hf := ite_f hf c60
      refine wa_bipush (v := 6) C 171 dX12_expression_169 rfl rfl ?_
      refine wa_goto C 176 dX12_expression_171 rfl ?_
      exact w_X12_expression_J176 C hk39 l3 (6 : Int32) q58 hf
set_option maxRecDepth 20000 in
theorem w_X12_expression_L39 {p : Program} {l : Launch} {e : Env} {s : State} {m : MethodId} {args : Array Value} {below : List Frame} {meth : Method} {c : Code} {D : va_G} {A : Nat → Prop} {dT : Nat → ClassId} {a : Nat → Nat} {res : MS} (C : Cx p s m args meth c cX12_expression 5 RX12 none D A dT) : ∀ (n : Nat) (l3 : Int32) (z0 : MS), f_X12_expression_L39 n l3 z0 = some res → WA p l e ({ frames := 5, cells := 0, slots := 0, locals := 114 } : Room) s m args below meth c (MQ below (QV D dT A ([wM dT a res])) args s 0 0 A) D A 0 0 5 39 ([wM dT a z0]) [(0, .ref (a 0)), (3, .int l3)] [] := by
  intro n
  induction n with
  | zero => intro l3 z0 hf; cases hf
  | succ n ih =>
    intro l3 z0 hf
    unfold f_X12_expression_L39 at hf
    refine wa_iload_n C 1 40 dX12_expression_39 rfl rfl ?_
    refine wa_if_eq C 340 43 dX12_expression_40 rfl rfl (fun c9 => ?_) (fun c9 => ?_)
    · replace hf := ite_t hf c9
      refine wa_lv (lv' := [(0, .ref (a 0))]) [0] rfl ?_
      exact w_X12_expression_J340 C z0 hf
    · replace hf := ite_f hf c9
      refine wa_aload_n C 0 44 dX12_expression_43 rfl rfl ?_
      obtain ⟨q16, hq16, hf⟩ := bind_ex hf
      refine wa_callVAi (b1 := 0) (q1 := 0) (ci := 12) (As := []) C 47 dX12_expression_44 rfl kv_X12_155 (c_X12_isGood hq16) ⟨rfl, rfl⟩ ⟨Nat.le_of_ble_eq_true rfl, Nat.le_of_ble_eq_true rfl⟩ rfl rfl rfl rfl rfl ⟨Nat.zero_le _, Nat.zero_le _⟩ (Nat.le_of_ble_eq_true rfl) ?_
      refine wa_if_eq C 340 50 dX12_expression_47 rfl rfl (fun c17 => ?_) (fun c17 => ?_)
      · replace hf := ite_t hf c17
        refine wa_lv (lv' := [(0, .ref (a 0))]) [0] rfl ?_
        exact w_X12_expression_J340 C z0 hf
      · replace hf := ite_f hf c17
        refine wa_aload_n C 0 51 dX12_expression_50 rfl rfl ?_
        obtain ⟨q18, hq18, hf⟩ := bind_ex hf
        refine wa_callVAi (b1 := 0) (q1 := 0) (ci := 12) (As := []) C 54 dX12_expression_51 rfl kv_X12_180 (c_X12_knownWord hq18) ⟨rfl, rfl⟩ ⟨Nat.le_of_ble_eq_true rfl, Nat.le_of_ble_eq_true rfl⟩ rfl rfl rfl rfl rfl ⟨Nat.zero_le _, Nat.zero_le _⟩ (Nat.le_of_ble_eq_true rfl) ?_
        refine wa_istore (lv' := [(0, .ref (a 0)), (3, .int l3), (4, .int q18)]) C [1, 2, 0] 56 dX12_expression_54 rfl (Nat.le_of_ble_eq_true rfl) rfl ?_
        refine wa_iload C 2 58 dX12_expression_56 rfl rfl ?_
        refine wa_bipush (v := 13) C 60 dX12_expression_58 rfl rfl ?_
        refine wa_icmp_eq C 70 63 dX12_expression_60 rfl rfl (fun c19 => ?_) (fun c19 => ?_)
        · replace hf := ite_t hf c19
          exact w_X12_expression_J70 C ih l3 q18 z0 hf
        · replace hf := ite_f hf c19
          refine wa_iload C 2 65 dX12_expression_63 rfl rfl ?_
          refine wa_bipush (v := 14) C 67 dX12_expression_65 rfl rfl ?_
          refine wa_icmp_ne C 124 70 dX12_expression_67 rfl rfl (fun c28 => ?_) (fun c28 => ?_)
          · replace hf := ite_f hf c28
            refine wa_aload_n C 0 125 dX12_expression_124 rfl rfl ?_
            refine wa_bipush (v := 60) C 127 dX12_expression_125 rfl rfl ?_
            obtain ⟨q29, hq29, hf⟩ := bind_ex hf
            refine wa_callVAi (b1 := 0) (q1 := 0) (ci := 12) (As := [.int (60 : Int32)]) C 130 dX12_expression_127 rfl kv_X12_193 (c_X12_isSign hq29) ⟨rfl, rfl⟩ ⟨Nat.le_of_ble_eq_true rfl, Nat.le_of_ble_eq_true rfl⟩ rfl rfl rfl rfl rfl ⟨Nat.zero_le _, Nat.zero_le _⟩ (Nat.le_of_ble_eq_true rfl) ?_
            refine wa_if_ne C 142 133 dX12_expression_130 rfl rfl (fun c30 => ?_) (fun c30 => ?_)
            · replace hf := ite_f hf c30
              refine wa_lv (lv' := [(0, .ref (a 0)), (3, .int l3)]) [0, 1] rfl ?_
              exact w_X12_expression_J142 C ih l3 z0 hf
            · replace hf := ite_t hf c30
              refine wa_aload_n C 0 134 dX12_expression_133 rfl rfl ?_
              refine wa_bipush (v := 61) C 136 dX12_expression_134 rfl rfl ?_
              obtain ⟨q66, hq66, hf⟩ := bind_ex hf
              refine wa_callVAi (b1 := 0) (q1 := 0) (ci := 12) (As := [.int (61 : Int32)]) C 139 dX12_expression_136 rfl kv_X12_193 (c_X12_isSign hq66) ⟨rfl, rfl⟩ ⟨Nat.le_of_ble_eq_true rfl, Nat.le_of_ble_eq_true rfl⟩ rfl rfl rfl rfl rfl ⟨Nat.zero_le _, Nat.zero_le _⟩ (Nat.le_of_ble_eq_true rfl) ?_
              refine wa_if_eq C 201 142 dX12_expression_139 rfl rfl (fun c67 => ?_) (fun c67 => ?_)
              · replace hf := ite_t hf c67
                refine wa_lv (lv' := [(0, .ref (a 0)), (3, .int l3)]) [0, 1] rfl ?_
                exact w_X12_expression_J201 C ih l3 z0 hf
              · replace hf := ite_f hf c67
                refine wa_lv (lv' := [(0, .ref (a 0)), (3, .int l3)]) [0, 1] rfl ?_
                exact w_X12_expression_J142 C ih l3 z0 hf
          · replace hf := ite_t hf c28
            exact w_X12_expression_J70 C ih l3 q18 z0 hf
set_option maxRecDepth 20000 in
theorem c_X12_expression {l : Launch} {D : va_G} {dT : Nat → ClassId} {a : Nat → Nat} {v : MS} {p0 : Int32} {p1 : Int32} {res : MS} (hf : f_X12_expression v p0 p1 = some res) : CTv l yX12_expression cX12_expression 5 none ({ frames := 5, cells := 0, slots := 0, locals := 114 } : Room) D dT [.ref (a 0), .int p0, .int p1] ([wM dT a v]) ([wM dT a res]) := by
  refine CTv.of (by decide) (Nat.le_of_ble_eq_true rfl) rfl ?_
  intro p e s m args below meth c A C
  unfold f_X12_expression at hf
  refine wa_aload_n C 0 1 dX12_expression_0 rfl rfl ?_
  obtain ⟨q1, hq1, hf⟩ := bind_ex hf
  refine wa_callVAi (b1 := 0) (q1 := 0) (ci := 12) (As := []) C 4 dX12_expression_1 rfl kv_X12_155 (c_X12_isGood hq1) ⟨rfl, rfl⟩ ⟨Nat.le_of_ble_eq_true rfl, Nat.le_of_ble_eq_true rfl⟩ rfl rfl rfl rfl rfl ⟨Nat.zero_le _, Nat.zero_le _⟩ (Nat.le_of_ble_eq_true rfl) ?_
  refine wa_if_ne C 8 7 dX12_expression_4 rfl rfl (fun c2 => ?_) (fun c2 => ?_)
  · replace hf := ite_f hf c2
    refine wa_aload_n C 0 9 dX12_expression_8 rfl rfl ?_
    refine wa_iload_n C 1 10 dX12_expression_9 rfl rfl ?_
    obtain ⟨y3, ey3, hf⟩ := bnd_ex hf
    refine wa_put (ws' := [wM dT a y3]) C 13 0 0 25 tyX12 dX12_expression_10 rfl iX12 tyX12_ok nmX12 q1474 rfl (Nat.le_of_ble_eq_true rfl) rfl rfl rfl rfl rfl (Nat.le_of_ble_eq_true rfl) (by rw [ey3]; rfl) ?_
    refine wa_aload_n C 0 14 dX12_expression_13 rfl rfl ?_
    refine wa_iload_n C 2 15 dX12_expression_14 rfl rfl ?_
    obtain ⟨y4, ey4, hf⟩ := bnd_ex hf
    refine wa_put (ws' := [wM dT a y4]) C 18 0 0 26 tyX12 dX12_expression_15 rfl iX12 tyX12_ok nmX12 q1475 rfl (Nat.le_of_ble_eq_true rfl) rfl rfl rfl rfl rfl (Nat.le_of_ble_eq_true rfl) (by rw [ey4]; rfl) ?_
    refine wa_aload_n C 0 19 dX12_expression_18 rfl rfl ?_
    refine wa_iconst (v := 0) C 20 dX12_expression_19 rfl rfl ?_
    obtain ⟨y5, ey5, hf⟩ := bnd_ex hf
    refine wa_put (ws' := [wM dT a y5]) C 23 0 0 27 tyX12 dX12_expression_20 rfl iX12 tyX12_ok nmX12 q1476 rfl (Nat.le_of_ble_eq_true rfl) rfl rfl rfl rfl rfl (Nat.le_of_ble_eq_true rfl) (by rw [ey5]; rfl) ?_
    refine wa_aload_n C 0 24 dX12_expression_23 rfl rfl ?_
    refine wa_iconst (v := 0) C 25 dX12_expression_24 rfl rfl ?_
    obtain ⟨y6, ey6, hf⟩ := bnd_ex hf
    refine wa_put (ws' := [wM dT a y6]) C 28 0 0 28 tyX12 dX12_expression_25 rfl iX12 tyX12_ok nmX12 q1477 rfl (Nat.le_of_ble_eq_true rfl) rfl rfl rfl rfl rfl (Nat.le_of_ble_eq_true rfl) (by rw [ey6]; rfl) ?_
    refine wa_aload_n C 0 29 dX12_expression_28 rfl rfl ?_
    obtain ⟨q7, hq7, hf⟩ := bind_ex hf
    refine wa_callVAv (b1 := 0) (q1 := 0) (ci := 12) (As := []) C 32 dX12_expression_29 rfl kv_X12_199 (c_X12_deeper hq7) ⟨rfl, rfl⟩ ⟨Nat.le_of_ble_eq_true rfl, Nat.le_of_ble_eq_true rfl⟩ rfl rfl rfl rfl rfl ⟨Nat.zero_le _, Nat.zero_le _⟩ (Nat.le_of_ble_eq_true rfl) ?_
    refine wa_aload_n C 0 33 dX12_expression_32 rfl rfl ?_
    refine wa_iconst (v := 1) C 34 dX12_expression_33 rfl rfl ?_
    obtain ⟨q8, hq8, hf⟩ := bind_ex hf
    refine wa_callVAv (b1 := 0) (q1 := 0) (ci := 12) (As := [.int (1 : Int32)]) C 37 dX12_expression_34 rfl kv_X12_208 (c_X12_operand hq8) ⟨rfl, rfl⟩ ⟨Nat.le_of_ble_eq_true rfl, Nat.le_of_ble_eq_true rfl⟩ rfl rfl rfl rfl rfl ⟨Nat.zero_le _, Nat.zero_le _⟩ (Nat.le_of_ble_eq_true rfl) ?_
    refine wa_iconst (v := 1) C 38 dX12_expression_37 rfl rfl ?_
    refine wa_istore_n (lv' := [(0, .ref (a 0)), (1, .int p0), (2, .int p1), (3, .int (1 : Int32))]) C [1, 2, 3, 0] 39 dX12_expression_38 rfl (Nat.le_of_ble_eq_true rfl) rfl ?_
    refine wa_lv (lv' := [(0, .ref (a 0)), (3, .int (1 : Int32))]) [0, 3] rfl ?_
    exact w_X12_expression_L39 C FUEL (1 : Int32) q8 hf
  · replace hf := ite_t hf c2
    cases hf
    exact wa_vret C dX12_expression_7 rfl
