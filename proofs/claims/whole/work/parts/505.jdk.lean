def vi2 (a b : Int32) : Bool := decide (¬ a < 0) && decide (a < b)
theorem vi2_in {a b : Int32} (h : vi2 a b = true) : ¬ a < 0 ∧ a < b := by
  unfold vi2 at h
  rw [Bool.and_eq_true, decide_eq_true_eq, decide_eq_true_eq] at h
  exact h
def bc (r : Int32) : Bool := decide (0 ≤ r) && decide (r.toNatClampNeg < 65536)
theorem bc_nar {r : Int32} (h : bc r = true) : narrow .char (.int r) = .int r := by
  unfold bc at h
  rw [Bool.and_eq_true, decide_eq_true_eq, decide_eq_true_eq] at h
  obtain ⟨j, hj, rfl⟩ := nI_of (x := r) (fun z => by
    have h1 := h.1
    rw [Int32.le_iff_toInt_le] at h1
    rw [Int32.lt_iff_toInt_lt] at z
    omega)
  rw [nI_clamp hj] at h
  exact (pk_charN h.2).1
theorem wa_yret {p : Program} {l : Launch} {e : Env} {R : Room} {s : State} {m : MethodId} {args : Array Value} {below : List Frame} {meth : Method} {c : Code} {D : va_G} {dT : Nat → ClassId} {nL pc : Nat} {ws : List va_W} {lv : List (Nat × Value)} {cc : ByteArray} {own : String} {A : Nat → Prop} {w1 : List va_W} {r v : Int32} {ty : FieldType} (C : Cx p s m args meth c cc nL own (some ty) D A dT) (hdg : decode cc pc = .ok (.ireturn, 1)) (hz : narrow ty (.int v) = .int v) (hw : ws = w1) (hv : v = r) : WA p l e R s m args below meth c (MQ below (QI D dT A w1 r) args s 0 0 A) D A 0 0 nL pc ws lv [.int v] := by
  subst hw; subst hv
  intro H locs ls hP hD hS hl
  exact W.zret C.1 C.2.1 C.2.2.2.2.2.2.2.1 hz (fun t ht hW => ⟨⟨v, (), rfl, rfl, by rw [ht]; exact hP, va_K.moved hW.alike C.2.2.2.2.2.1, hD⟩, hS.F ht⟩) hS.2.2 hdg C.2.2.2.2.2.2.2.2
theorem c_J3_checkIndex_8e157 {l : Launch} {D : va_G} {dT : Nat → ClassId} {p0 p1 : Int32} {x9 : Value} (hx : x9 = .null ∨ ∃ t, x9 = .ref t) (g : vi2 p0 p1 = true) : CTi l yJ3_checkIndex_8e157 cJ3_checkIndex_8e157 3 (some .int) ({ frames := 0, cells := 0, slots := 0, locals := 0 } : Room) D dT [.int p0, .int p1, x9] [] [] p0 := by
  refine CTi.of (lv0 := [(0, .int p0), (1, .int p1), (2, x9)]) (by decide) (by rcases hx with rfl | ⟨t, rfl⟩ <;> exact Nat.le_of_ble_eq_true rfl) (by rcases hx with rfl | ⟨t, rfl⟩ <;> rfl) ?_
  intro p e s m args below meth c A C
  obtain ⟨h1, h2⟩ := vi2_in g
  refine wa_iload_n C 0 1 dJ3_checkIndex_8e157_0 rfl rfl ?_
  refine wa_if_lt C 9 4 dJ3_checkIndex_8e157_1 rfl rfl (fun c1 => absurd c1 h1) (fun c1 => ?_)
  refine wa_iload_n C 0 5 dJ3_checkIndex_8e157_4 rfl rfl ?_
  refine wa_iload_n C 1 6 dJ3_checkIndex_8e157_5 rfl rfl ?_
  refine wa_icmp_lt C 16 9 dJ3_checkIndex_8e157_6 rfl rfl (fun c2 => ?_) (fun c2 => absurd h2 c2)
  refine wa_iload_n C 0 17 dJ3_checkIndex_8e157_16 rfl rfl ?_
  exact wa_iret C dJ3_checkIndex_8e157_17 rfl rfl
theorem ks_J0_1059 : KS RJ0 1059 yJ3_checkIndex_8e157 cJ3_checkIndex_8e157 3 (some .int) 3 := KS.mk q815 q816 q22 q817 ⟨by decide, by decide, by decide +kernel⟩
theorem c_J0_checkIndex_df160 {l : Launch} {D : va_G} {dT : Nat → ClassId} {aK aV : Nat → Nat} {p0 p1 : Int32} (g : vi2 p0 p1 = true) : CEv aK aV l yJ0_checkIndex_df160 cJ0_checkIndex_df160 2 none ({ frames := 1, cells := 0, slots := 0, locals := 22 } : Room) D dT [.int p0, .int p1] [] [] := by
  refine CEv.of (by decide) (Nat.le_of_ble_eq_true rfl) rfl ?_
  intro p e s m args below meth c A C E
  refine wa_iload_n C 0 1 dJ0_checkIndex_df160_0 rfl rfl ?_
  refine wa_iload_n C 1 2 dJ0_checkIndex_df160_1 rfl rfl ?_
  refine wa_sioobe C E 5 dJ0_checkIndex_df160_2 rfl q764 (fun x9 hx => ?_)
  refine wa_callS0i (As := [.int p0, .int p1, x9]) C 8 dJ0_checkIndex_df160_5 rfl ks_J0_1059 (c_J3_checkIndex_8e157 hx g) ⟨rfl, rfl⟩ ⟨Nat.le_of_ble_eq_true rfl, Nat.le_of_ble_eq_true rfl⟩ rfl rfl ⟨Nat.zero_le _, Nat.zero_le _⟩ (Nat.le_of_ble_eq_true rfl) ?_
  refine wa_pop C 9 dJ0_checkIndex_df160_8 rfl rfl ?_
  exact wa_vret C dJ0_checkIndex_df160_9 rfl
def f_J1_canEncode_9a6ad (p0 : Int32) : Option (Int32) := (if p0 < 0 then some ((0 : Int32)) else (if (255 : Int32) < p0 then some ((0 : Int32)) else some ((1 : Int32))))
set_option maxRecDepth 20000 in
theorem c_J1_canEncode_9a6ad {l : Launch} {D : va_G} {dT : Nat → ClassId} {p0 : Int32} {res : Int32} (hf : f_J1_canEncode_9a6ad p0 = some res) : CTi l yJ1_canEncode_9a6ad cJ1_canEncode_9a6ad 1 (some .boolean) ({ frames := 0, cells := 0, slots := 0, locals := 0 } : Room) D dT [.int p0] ([]) ([]) res := by
  refine CTi.of (by decide) (Nat.le_of_ble_eq_true rfl) rfl ?_
  intro p e s m args below meth c A C
  unfold f_J1_canEncode_9a6ad at hf
  refine wa_iload_n C 0 1 dJ1_canEncode_9a6ad_0 rfl rfl ?_
  refine wa_if_lt C 15 4 dJ1_canEncode_9a6ad_1 rfl rfl (fun c1 => ?_) (fun c1 => ?_)
  · replace hf := ite_t hf c1
    refine wa_iconst (v := 0) C 16 dJ1_canEncode_9a6ad_15 rfl rfl ?_
    cases hf
    exact wa_zret C dJ1_canEncode_9a6ad_16 rfl rfl rfl
  · replace hf := ite_f hf c1
    refine wa_iload_n C 0 5 dJ1_canEncode_9a6ad_4 rfl rfl ?_
    refine wa_sipush (v := 255) C 8 dJ1_canEncode_9a6ad_5 rfl rfl ?_
    refine wa_icmp_gt C 15 11 dJ1_canEncode_9a6ad_8 rfl rfl (fun c2 => ?_) (fun c2 => ?_)
    · replace hf := ite_t hf c2
      refine wa_iconst (v := 0) C 16 dJ1_canEncode_9a6ad_15 rfl rfl ?_
      cases hf
      exact wa_zret C dJ1_canEncode_9a6ad_16 rfl rfl rfl
    · replace hf := ite_f hf c2
      refine wa_iconst (v := 1) C 12 dJ1_canEncode_9a6ad_11 rfl rfl ?_
      refine wa_goto C 16 dJ1_canEncode_9a6ad_12 rfl ?_
      cases hf
      exact wa_zret C dJ1_canEncode_9a6ad_16 rfl rfl rfl
def f_J1_indexOfChar_4cfef_L7 (i0 : Nat) (l3 : Int32) (l4 : Int32) : Nat → Int32 → Option (Int32)
  | 0, _ => none
  | n + 1, l5 => (if l3 ≤ l5 then some ((-1 : Int32)) else grd (decide (i0 < nS)) (grd (vi l5 (lenS.getD i0 0)) ((if ((bytS.getD i0 []).getD (l5).toNatClampNeg 0) = l4 then some (l5) else bnd (l5 + 1) (fun x5 => f_J1_indexOfChar_4cfef_L7 i0 l3 l4 n x5)))))
def f_J1_indexOfChar_4cfef (i0 : Nat) (p1 : Int32) (p2 : Int32) (p3 : Int32) : Option (Int32) := f_J1_indexOfChar_4cfef_L7 i0 p3 p1.toInt8.toInt32 FUEL p2
set_option maxRecDepth 20000 in
theorem w_J1_indexOfChar_4cfef_L7 {p : Program} {l : Launch} {e : Env} {s : State} {m : MethodId} {args : Array Value} {below : List Frame} {meth : Method} {c : Code} {D : va_G} {A : Nat → Prop} {dT : Nat → ClassId} {aK aV : Nat → Nat} {i0 : Nat} {res : Int32} {l3 : Int32} {l4 : Int32} (C : Cx p s m args meth c cJ1_indexOfChar_4cfef 6 RJ1 (some .int) D A dT) (E : AMB aK aV A s s.heap) : ∀ (n : Nat) (l5 : Int32), f_J1_indexOfChar_4cfef_L7 i0 l3 l4 n l5 = some res → WA p l e ({ frames := 0, cells := 0, slots := 0, locals := 0 } : Room) s m args below meth c (MQ below (QI D dT A ([]) res) args s 0 0 A) D A 0 0 6 7 ([]) [(0, .ref (aV i0)), (3, .int l3), (4, .int l4), (5, .int l5)] [] := by
  intro n
  induction n with
  | zero => intro l5 hf; cases hf
  | succ n ih =>
    intro l5 hf
    unfold f_J1_indexOfChar_4cfef_L7 at hf
    refine wa_iload C 3 9 dJ1_indexOfChar_4cfef_7 rfl rfl ?_
    refine wa_iload_n C 1 10 dJ1_indexOfChar_4cfef_9 rfl rfl ?_
    refine wa_icmp_ge C 31 13 dJ1_indexOfChar_4cfef_10 rfl rfl (fun c1 => ?_) (fun c1 => ?_)
    · replace hf := ite_t hf c1
      refine wa_iconst (v := (-1)) C 32 dJ1_indexOfChar_4cfef_31 rfl rfl ?_
      cases hf
      exact wa_iret C dJ1_indexOfChar_4cfef_32 rfl rfl
    · replace hf := ite_f hf c1
      refine wa_aload_n C 0 14 dJ1_indexOfChar_4cfef_13 rfl rfl ?_
      refine wa_iload C 3 16 dJ1_indexOfChar_4cfef_14 rfl rfl ?_
      obtain ⟨g2, hf⟩ := grd_ex hf
      obtain ⟨g3, hf⟩ := grd_ex hf
      refine wa_bat C E 17 dJ1_indexOfChar_4cfef_16 rfl (of_decide_eq_true g2) (vi_in g3) ?_
      refine wa_iload C 2 19 dJ1_indexOfChar_4cfef_17 rfl rfl ?_
      refine wa_icmp_ne C 25 22 dJ1_indexOfChar_4cfef_19 rfl rfl (fun c4 => ?_) (fun c4 => ?_)
      · replace hf := ite_f hf c4
        obtain ⟨x5, ex5, hf⟩ := bnd_ex hf
        refine wa_iinc (v := x5) (lv' := [(0, .ref (aV i0)), (3, .int l3), (4, .int l4), (5, .int x5)]) C 3 [1, 2, 3, 0] 28 dJ1_indexOfChar_4cfef_25 rfl rfl (by rw [ex5]; rfl) (Nat.le_of_ble_eq_true rfl) rfl ?_
        refine wa_goto C 7 dJ1_indexOfChar_4cfef_28 rfl ?_
        exact ih x5 hf
      · replace hf := ite_t hf c4
        refine wa_iload C 3 24 dJ1_indexOfChar_4cfef_22 rfl rfl ?_
        cases hf
        exact wa_iret C dJ1_indexOfChar_4cfef_24 rfl rfl
set_option maxRecDepth 20000 in
theorem c_J1_indexOfChar_4cfef {l : Launch} {D : va_G} {dT : Nat → ClassId} {aK aV : Nat → Nat} {i0 : Nat} {p1 : Int32} {p2 : Int32} {p3 : Int32} {res : Int32} (hf : f_J1_indexOfChar_4cfef i0 p1 p2 p3 = some res) : CEi aK aV l yJ1_indexOfChar_4cfef cJ1_indexOfChar_4cfef 6 (some .int) ({ frames := 0, cells := 0, slots := 0, locals := 0 } : Room) D dT [.ref (aV i0), .int p1, .int p2, .int p3] ([]) ([]) res := by
  refine CEi.of (by decide) (Nat.le_of_ble_eq_true rfl) rfl ?_
  intro p e s m args below meth c A C E
  unfold f_J1_indexOfChar_4cfef at hf
  refine wa_iload_n C 1 1 dJ1_indexOfChar_4cfef_0 rfl rfl ?_
  refine wa_i2b C 2 dJ1_indexOfChar_4cfef_1 rfl ?_
  refine wa_istore (lv' := [(0, .ref (aV i0)), (1, .int p1), (2, .int p2), (3, .int p3), (4, .int p1.toInt8.toInt32)]) C [1, 2, 3, 4, 0] 4 dJ1_indexOfChar_4cfef_2 rfl (Nat.le_of_ble_eq_true rfl) rfl ?_
  refine wa_iload_n C 2 5 dJ1_indexOfChar_4cfef_4 rfl rfl ?_
  refine wa_istore (lv' := [(0, .ref (aV i0)), (1, .int p1), (2, .int p2), (3, .int p3), (4, .int p1.toInt8.toInt32), (5, .int p2)]) C [1, 2, 3, 4, 5, 0] 7 dJ1_indexOfChar_4cfef_5 rfl (Nat.le_of_ble_eq_true rfl) rfl ?_
  refine wa_lv (lv' := [(0, .ref (aV i0)), (3, .int p3), (4, .int p1.toInt8.toInt32), (5, .int p2)]) [0, 3, 4, 5] rfl ?_
  exact w_J1_indexOfChar_4cfef_L7 C E FUEL p2 hf
theorem ks_J1_88 : KS "java/lang/StringLatin1" 88 yJ1_canEncode_9a6ad cJ1_canEncode_9a6ad 1 (some .boolean) 1 := KS.mk q736 q737 q20 q738 ⟨by decide, by decide, by decide +kernel⟩
theorem ks_J1_95 : KS "java/lang/StringLatin1" 95 yJ1_indexOfChar_4cfef cJ1_indexOfChar_4cfef 6 (some .int) 4 := KS.mk q743 q744 q20 q745 ⟨by decide, by decide, by decide +kernel⟩
def f_J1_indexOf_4cfef (i0 : Nat) (p1 : Int32) (p2 : Int32) (p3 : Int32) : Option (Int32) := (f_J1_canEncode_9a6ad p1).bind (fun q1 => (if q1 = 0 then some ((-1 : Int32)) else bnd (if p2 < (0 : Int32) then (0 : Int32) else p2) (fun x4 => grd (decide (i0 < nS)) (bnd (if (Int32.ofNat (lenS.getD i0 0)) < p3 then (Int32.ofNat (lenS.getD i0 0)) else p3) (fun x6 => (if x4 < x6 then (f_J1_indexOfChar_4cfef i0 p1 x4 x6).bind (fun q8 => some (q8)) else some ((-1 : Int32))))))))
set_option maxRecDepth 20000 in
theorem c_J1_indexOf_4cfef {l : Launch} {D : va_G} {dT : Nat → ClassId} {aK aV : Nat → Nat} {i0 : Nat} {p1 : Int32} {p2 : Int32} {p3 : Int32} {res : Int32} (hf : f_J1_indexOf_4cfef i0 p1 p2 p3 = some res) : CEi aK aV l yJ1_indexOf_4cfef cJ1_indexOf_4cfef 4 (some .int) ({ frames := 3, cells := 0, slots := 0, locals := 60 } : Room) D dT [.ref (aV i0), .int p1, .int p2, .int p3] ([]) ([]) res := by
  refine CEi.of (by decide) (Nat.le_of_ble_eq_true rfl) rfl ?_
  intro p e s m args below meth c A C E
  unfold f_J1_indexOf_4cfef at hf
  refine wa_iload_n C 1 1 dJ1_indexOf_4cfef_0 rfl rfl ?_
  obtain ⟨q1, hq1, hf⟩ := bind_ex hf
  refine wa_callS0i (As := [.int p1]) C 4 dJ1_indexOf_4cfef_1 rfl ks_J1_88 (c_J1_canEncode_9a6ad hq1) ⟨rfl, rfl⟩ ⟨Nat.le_of_ble_eq_true rfl, Nat.le_of_ble_eq_true rfl⟩ rfl rfl ⟨Nat.zero_le _, Nat.zero_le _⟩ (Nat.le_of_ble_eq_true rfl) ?_
  refine wa_if_ne C 9 7 dJ1_indexOf_4cfef_4 rfl rfl (fun c3 => ?_) (fun c3 => ?_)
  · replace hf := ite_f hf c3
    refine wa_iload_n C 2 10 dJ1_indexOf_4cfef_9 rfl rfl ?_
    refine wa_iconst (v := 0) C 11 dJ1_indexOf_4cfef_10 rfl rfl ?_
    refine wa_mmax C 14 dJ1_indexOf_4cfef_11 rfl q739 q740 q18 q741 (Nat.le_of_ble_eq_true rfl) (Nat.le_of_ble_eq_true rfl) ⟨Nat.zero_le _, Nat.zero_le _⟩ ?_
    obtain ⟨x4, ex4, hf⟩ := bnd_ex hf
    refine wa_topi ex4 ?_
    refine wa_istore_n (lv' := [(0, .ref (aV i0)), (1, .int p1), (2, .int x4), (3, .int p3)]) C [1, 2, 0, 3] 15 dJ1_indexOf_4cfef_14 rfl (Nat.le_of_ble_eq_true rfl) rfl ?_
    refine wa_iload_n C 3 16 dJ1_indexOf_4cfef_15 rfl rfl ?_
    refine wa_aload_n C 0 17 dJ1_indexOf_4cfef_16 rfl rfl ?_
    obtain ⟨g5, hf⟩ := grd_ex hf
    refine wa_blen C E 18 dJ1_indexOf_4cfef_17 rfl (of_decide_eq_true g5) ?_
    refine wa_mmin C 21 dJ1_indexOf_4cfef_18 rfl q742 q503 q18 q504 (Nat.le_of_ble_eq_true rfl) (Nat.le_of_ble_eq_true rfl) ⟨Nat.zero_le _, Nat.zero_le _⟩ ?_
    obtain ⟨x6, ex6, hf⟩ := bnd_ex hf
    refine wa_topi ex6 ?_
    refine wa_istore_n (lv' := [(0, .ref (aV i0)), (1, .int p1), (2, .int x4), (3, .int x6)]) C [1, 2, 3, 0] 22 dJ1_indexOf_4cfef_21 rfl (Nat.le_of_ble_eq_true rfl) rfl ?_
    refine wa_iload_n C 2 23 dJ1_indexOf_4cfef_22 rfl rfl ?_
    refine wa_iload_n C 3 24 dJ1_indexOf_4cfef_23 rfl rfl ?_
    refine wa_icmp_lt C 29 27 dJ1_indexOf_4cfef_24 rfl rfl (fun c7 => ?_) (fun c7 => ?_)
    · replace hf := ite_t hf c7
      refine wa_aload_n C 0 30 dJ1_indexOf_4cfef_29 rfl rfl ?_
      refine wa_iload_n C 1 31 dJ1_indexOf_4cfef_30 rfl rfl ?_
      refine wa_iload_n C 2 32 dJ1_indexOf_4cfef_31 rfl rfl ?_
      refine wa_iload_n C 3 33 dJ1_indexOf_4cfef_32 rfl rfl ?_
      obtain ⟨q8, hq8, hf⟩ := bind_ex hf
      refine we_callS0i (As := [.ref (aV i0), .int p1, .int x4, .int x6]) C E 36 dJ1_indexOf_4cfef_33 rfl ks_J1_95 (c_J1_indexOfChar_4cfef hq8) ⟨rfl, rfl⟩ ⟨Nat.le_of_ble_eq_true rfl, Nat.le_of_ble_eq_true rfl⟩ rfl rfl ⟨Nat.zero_le _, Nat.zero_le _⟩ (Nat.le_of_ble_eq_true rfl) ?_
      cases hf
      exact wa_iret C dJ1_indexOf_4cfef_36 rfl rfl
    · replace hf := ite_f hf c7
      refine wa_iconst (v := (-1)) C 28 dJ1_indexOf_4cfef_27 rfl rfl ?_
      cases hf
      exact wa_iret C dJ1_indexOf_4cfef_28 rfl rfl
  · replace hf := ite_t hf c3
    refine wa_iconst (v := (-1)) C 8 dJ1_indexOf_4cfef_7 rfl rfl ?_
    cases hf
    exact wa_iret C dJ1_indexOf_4cfef_8 rfl rfl
def f_J0_coder_7d493 (i0 : Nat) : Option (Int32) := (if (1 : Int32) = 0 then some ((1 : Int32)) else grd (decide (i0 < nS)) (some ((0 : Int32))))
set_option maxRecDepth 20000 in
theorem c_J0_coder_7d493 {l : Launch} {D : va_G} {dT : Nat → ClassId} {aK aV : Nat → Nat} {i0 : Nat} {res : Int32} (hf : f_J0_coder_7d493 i0 = some res) : CEi aK aV l yJ0_coder_7d493 cJ0_coder_7d493 1 (some .byte) ({ frames := 0, cells := 0, slots := 0, locals := 0 } : Room) D dT [.ref (aK i0)] ([]) ([]) res := by
  refine CEi.of (by decide) (Nat.le_of_ble_eq_true rfl) rfl ?_
  intro p e s m args below meth c A C E
  unfold f_J0_coder_7d493 at hf
  refine wa_compact C E 3 dJ0_coder_7d493_0 rfl q723 ?_
  refine wa_if_eq C 13 6 dJ0_coder_7d493_3 rfl rfl (fun c1 => ?_) (fun c1 => ?_)
  · replace hf := ite_t hf c1
    refine wa_iconst (v := 1) C 14 dJ0_coder_7d493_13 rfl rfl ?_
    cases hf
    exact wa_yret C dJ0_coder_7d493_14 rfl rfl rfl
  · replace hf := ite_f hf c1
    refine wa_aload_n C 0 7 dJ0_coder_7d493_6 rfl rfl ?_
    obtain ⟨g2, hf⟩ := grd_ex hf
    refine wa_coder C E 10 dJ0_coder_7d493_7 rfl (of_decide_eq_true g2) q2140 ?_
    refine wa_goto C 14 dJ0_coder_7d493_10 rfl ?_
    cases hf
    exact wa_yret C dJ0_coder_7d493_14 rfl rfl rfl
def f_J0_isLatin1_aae02 (i0 : Nat) : Option (Int32) := (if (1 : Int32) = 0 then some ((0 : Int32)) else grd (decide (i0 < nS)) ((if (0 : Int32) = 0 then some ((1 : Int32)) else some ((0 : Int32)))))
set_option maxRecDepth 20000 in
theorem c_J0_isLatin1_aae02 {l : Launch} {D : va_G} {dT : Nat → ClassId} {aK aV : Nat → Nat} {i0 : Nat} {res : Int32} (hf : f_J0_isLatin1_aae02 i0 = some res) : CEi aK aV l yJ0_isLatin1_aae02 cJ0_isLatin1_aae02 1 (some .boolean) ({ frames := 0, cells := 0, slots := 0, locals := 0 } : Room) D dT [.ref (aK i0)] ([]) ([]) res := by
  refine CEi.of (by decide) (Nat.le_of_ble_eq_true rfl) rfl ?_
  intro p e s m args below meth c A C E
  unfold f_J0_isLatin1_aae02 at hf
  refine wa_compact C E 3 dJ0_isLatin1_aae02_0 rfl q723 ?_
  refine wa_if_eq C 17 6 dJ0_isLatin1_aae02_3 rfl rfl (fun c1 => ?_) (fun c1 => ?_)
  · replace hf := ite_t hf c1
    refine wa_iconst (v := 0) C 18 dJ0_isLatin1_aae02_17 rfl rfl ?_
    cases hf
    exact wa_zret C dJ0_isLatin1_aae02_18 rfl rfl rfl
  · replace hf := ite_f hf c1
    refine wa_aload_n C 0 7 dJ0_isLatin1_aae02_6 rfl rfl ?_
    obtain ⟨g2, hf⟩ := grd_ex hf
    refine wa_coder C E 10 dJ0_isLatin1_aae02_7 rfl (of_decide_eq_true g2) q2140 ?_
    refine wa_if_ne C 17 13 dJ0_isLatin1_aae02_10 rfl rfl (fun c3 => ?_) (fun c3 => ?_)
    · replace hf := ite_f hf c3
      refine wa_iconst (v := 0) C 18 dJ0_isLatin1_aae02_17 rfl rfl ?_
      cases hf
      exact wa_zret C dJ0_isLatin1_aae02_18 rfl rfl rfl
    · replace hf := ite_t hf c3
      refine wa_iconst (v := 1) C 14 dJ0_isLatin1_aae02_13 rfl rfl ?_
      refine wa_goto C 18 dJ0_isLatin1_aae02_14 rfl ?_
      cases hf
      exact wa_zret C dJ0_isLatin1_aae02_18 rfl rfl rfl
theorem kv_J0_335 : KV "java/lang/String" 335 yJ0_coder_7d493 cJ0_coder_7d493 1 (some .byte) 0 := KV.mk q729 q730 q731 q19 q732 ⟨by decide, by decide, by decide +kernel⟩
def f_J0_length_8abf5 (i0 : Nat) : Option (Int32) := grd (decide (i0 < nS)) (grd (decide (i0 < nS)) (grd (decide (i0 < nS)) ((f_J0_coder_7d493 i0).bind (fun q4 => some (((Int32.ofNat (lenS.getD i0 0)) >>> (q4 &&& 31)))))))
set_option maxRecDepth 20000 in
theorem c_J0_length_8abf5 {l : Launch} {D : va_G} {dT : Nat → ClassId} {aK aV : Nat → Nat} {i0 : Nat} {res : Int32} (hf : f_J0_length_8abf5 i0 = some res) : CEi aK aV l yJ0_length_8abf5 cJ0_length_8abf5 1 (some .int) ({ frames := 1, cells := 0, slots := 0, locals := 20 } : Room) D dT [.ref (aK i0)] ([]) ([]) res := by
  refine CEi.of (by decide) (Nat.le_of_ble_eq_true rfl) rfl ?_
  intro p e s m args below meth c A C E
  unfold f_J0_length_8abf5 at hf
  refine wa_aload_n C 0 1 dJ0_length_8abf5_0 rfl rfl ?_
  obtain ⟨g1, hf⟩ := grd_ex hf
  refine wa_value C E 4 dJ0_length_8abf5_1 rfl (of_decide_eq_true g1) q2141 ?_
  obtain ⟨g2, hf⟩ := grd_ex hf
  refine wa_blen C E 5 dJ0_length_8abf5_4 rfl (of_decide_eq_true g2) ?_
  refine wa_aload_n C 0 6 dJ0_length_8abf5_5 rfl rfl ?_
  obtain ⟨g3, hf⟩ := grd_ex hf
  obtain ⟨q4, hq4, hf⟩ := bind_ex hf
  refine we_callV0i (As := []) C E 9 dJ0_length_8abf5_6 rfl kv_J0_335 (c_J0_coder_7d493 hq4) ⟨rfl, rfl⟩ ⟨Nat.le_of_ble_eq_true rfl, Nat.le_of_ble_eq_true rfl⟩ (rv_str E (of_decide_eq_true g3) rfl) rfl rfl ⟨Nat.zero_le _, Nat.zero_le _⟩ (Nat.le_of_ble_eq_true rfl) ?_
  refine wa_ishr C 10 dJ0_length_8abf5_9 rfl ?_
  cases hf
  exact wa_iret C dJ0_length_8abf5_10 rfl rfl
theorem ks_J1_9 : KS "java/lang/StringLatin1" 9 yJ0_checkIndex_df160 cJ0_checkIndex_df160 2 none 2 := KS.mk q812 q813 q19 q814 ⟨by decide, by decide, by decide +kernel⟩
def f_J1_charAt_3b067 (i0 : Nat) (p1 : Int32) : Option (Int32) := grd (decide (i0 < nS)) (grd (vi2 p1 (Int32.ofNat (lenS.getD i0 0))) (grd (decide (i0 < nS)) (grd (vi p1 (lenS.getD i0 0)) (some ((((((bytS.getD i0 []).getD (p1).toNatClampNeg 0) &&& (255 : Int32)).toUInt32 % 65536).toInt32))))))
set_option maxRecDepth 20000 in
theorem c_J1_charAt_3b067 {l : Launch} {D : va_G} {dT : Nat → ClassId} {aK aV : Nat → Nat} {i0 : Nat} {p1 : Int32} {res : Int32} (hf : f_J1_charAt_3b067 i0 p1 = some res) : CEi aK aV l yJ1_charAt_3b067 cJ1_charAt_3b067 2 (some .char) ({ frames := 2, cells := 0, slots := 0, locals := 43 } : Room) D dT [.ref (aV i0), .int p1] ([]) ([]) res := by
  refine CEi.of (by decide) (Nat.le_of_ble_eq_true rfl) rfl ?_
  intro p e s m args below meth c A C E
  unfold f_J1_charAt_3b067 at hf
  refine wa_iload_n C 1 1 dJ1_charAt_3b067_0 rfl rfl ?_
  refine wa_aload_n C 0 2 dJ1_charAt_3b067_1 rfl rfl ?_
  obtain ⟨g1, hf⟩ := grd_ex hf
  refine wa_blen C E 3 dJ1_charAt_3b067_2 rfl (of_decide_eq_true g1) ?_
  obtain ⟨g2, hf⟩ := grd_ex hf
  refine we_callS0v (As := [.int p1, .int (Int32.ofNat (lenS.getD i0 0))]) C E 6 dJ1_charAt_3b067_3 rfl ks_J1_9 (c_J0_checkIndex_df160 g2) ⟨rfl, rfl⟩ ⟨Nat.le_of_ble_eq_true rfl, Nat.le_of_ble_eq_true rfl⟩ rfl rfl ⟨Nat.zero_le _, Nat.zero_le _⟩ (Nat.le_of_ble_eq_true rfl) ?_
  refine wa_aload_n C 0 7 dJ1_charAt_3b067_6 rfl rfl ?_
  refine wa_iload_n C 1 8 dJ1_charAt_3b067_7 rfl rfl ?_
  obtain ⟨g3, hf⟩ := grd_ex hf
  obtain ⟨g4, hf⟩ := grd_ex hf
  refine wa_bat C E 9 dJ1_charAt_3b067_8 rfl (of_decide_eq_true g3) (vi_in g4) ?_
  refine wa_sipush (v := 255) C 12 dJ1_charAt_3b067_9 rfl rfl ?_
  refine wa_iand C 13 dJ1_charAt_3b067_12 rfl ?_
  refine wa_i2c C 14 dJ1_charAt_3b067_13 rfl ?_
  cases hf
  exact wa_yret C dJ1_charAt_3b067_14 (pk_nc _) rfl rfl
theorem ks_J0_495 : KS "java/lang/String" 495 yJ1_charAt_3b067 cJ1_charAt_3b067 2 (some .char) 2 := KS.mk q809 q810 q20 q811 ⟨by decide, by decide, by decide +kernel⟩
theorem kv_J0_492 : KV "java/lang/String" 492 yJ0_isLatin1_aae02 cJ0_isLatin1_aae02 1 (some .boolean) 0 := KV.mk q719 q720 q721 q19 q722 ⟨by decide, by decide, by decide +kernel⟩
def f_J0_charAt_5068e (i0 : Nat) (p0 : Int32) : Option (Int32) := grd (decide (i0 < nS)) ((f_J0_isLatin1_aae02 i0).bind (fun q2 => (if q2 = 0 then grd (decide (i0 < nS)) (none) else grd (decide (i0 < nS)) ((f_J1_charAt_3b067 i0 p0).bind (fun q7 => grd (bc q7) (some (q7)))))))
set_option maxRecDepth 20000 in
theorem c_J0_charAt_5068e {l : Launch} {D : va_G} {dT : Nat → ClassId} {aK aV : Nat → Nat} {i0 : Nat} {p0 : Int32} {res : Int32} (hf : f_J0_charAt_5068e i0 p0 = some res) : CEi aK aV l yJ0_charAt_5068e cJ0_charAt_5068e 2 (some .char) ({ frames := 3, cells := 0, slots := 0, locals := 64 } : Room) D dT [.ref (aK i0), .int p0] ([]) ([]) res := by
  refine CEi.of (by decide) (Nat.le_of_ble_eq_true rfl) rfl ?_
  intro p e s m args below meth c A C E
  unfold f_J0_charAt_5068e at hf
  refine wa_aload_n C 0 1 dJ0_charAt_5068e_0 rfl rfl ?_
  obtain ⟨g1, hf⟩ := grd_ex hf
  obtain ⟨q2, hq2, hf⟩ := bind_ex hf
  refine we_callV0i (As := []) C E 4 dJ0_charAt_5068e_1 rfl kv_J0_492 (c_J0_isLatin1_aae02 hq2) ⟨rfl, rfl⟩ ⟨Nat.le_of_ble_eq_true rfl, Nat.le_of_ble_eq_true rfl⟩ (rv_str E (of_decide_eq_true g1) rfl) rfl rfl ⟨Nat.zero_le _, Nat.zero_le _⟩ (Nat.le_of_ble_eq_true rfl) ?_
  refine wa_if_eq C 16 7 dJ0_charAt_5068e_4 rfl rfl (fun c4 => ?_) (fun c4 => ?_)
  · replace hf := ite_t hf c4
    refine wa_aload_n C 0 17 dJ0_charAt_5068e_16 rfl rfl ?_
    obtain ⟨g5, hf⟩ := grd_ex hf
    refine wa_value C E 20 dJ0_charAt_5068e_17 rfl (of_decide_eq_true g5) q2141 ?_
    refine wa_iload_n C 1 21 dJ0_charAt_5068e_20 rfl rfl ?_
    cases hf
  · replace hf := ite_f hf c4
    refine wa_aload_n C 0 8 dJ0_charAt_5068e_7 rfl rfl ?_
    obtain ⟨g6, hf⟩ := grd_ex hf
    refine wa_value C E 11 dJ0_charAt_5068e_8 rfl (of_decide_eq_true g6) q2141 ?_
    refine wa_iload_n C 1 12 dJ0_charAt_5068e_11 rfl rfl ?_
    obtain ⟨q7, hq7, hf⟩ := bind_ex hf
    refine we_callS0i (As := [.ref (aV i0), .int p0]) C E 15 dJ0_charAt_5068e_12 rfl ks_J0_495 (c_J1_charAt_3b067 hq7) ⟨rfl, rfl⟩ ⟨Nat.le_of_ble_eq_true rfl, Nat.le_of_ble_eq_true rfl⟩ rfl rfl ⟨Nat.zero_le _, Nat.zero_le _⟩ (Nat.le_of_ble_eq_true rfl) ?_
    obtain ⟨g9, hf⟩ := grd_ex hf
    cases hf
    exact wa_yret C dJ0_charAt_5068e_15 (bc_nar g9) rfl rfl
theorem ks_J0_637 : KS "java/lang/String" 637 yJ1_indexOf_4cfef cJ1_indexOf_4cfef 4 (some .int) 4 := KS.mk q733 q734 q20 q735 ⟨by decide, by decide, by decide +kernel⟩
theorem kv_J0_505 : KV "java/lang/String" 505 yJ0_length_8abf5 cJ0_length_8abf5 1 (some .int) 0 := KV.mk q725 q726 q727 q19 q728 ⟨by decide, by decide, by decide +kernel⟩
def f_J0_indexOf_7cf53 (i0 : Nat) (p0 : Int32) (p1 : Int32) : Option (Int32) := grd (decide (i0 < nS)) ((f_J0_isLatin1_aae02 i0).bind (fun q2 => (if q2 = 0 then grd (decide (i0 < nS)) (grd (decide (i0 < nS)) ((f_J0_length_8abf5 i0).bind (fun q7 => none))) else grd (decide (i0 < nS)) (grd (decide (i0 < nS)) ((f_J0_length_8abf5 i0).bind (fun q11 => (f_J1_indexOf_4cfef i0 p0 p1 q11).bind (fun q13 => some (q13))))))))
set_option maxRecDepth 20000 in
theorem c_J0_indexOf_7cf53 {l : Launch} {D : va_G} {dT : Nat → ClassId} {aK aV : Nat → Nat} {i0 : Nat} {p0 : Int32} {p1 : Int32} {res : Int32} (hf : f_J0_indexOf_7cf53 i0 p0 p1 = some res) : CEi aK aV l yJ0_indexOf_7cf53 cJ0_indexOf_7cf53 3 (some .int) ({ frames := 4, cells := 0, slots := 0, locals := 83 } : Room) D dT [.ref (aK i0), .int p0, .int p1] ([]) ([]) res := by
  refine CEi.of (by decide) (Nat.le_of_ble_eq_true rfl) rfl ?_
  intro p e s m args below meth c A C E
  unfold f_J0_indexOf_7cf53 at hf
  refine wa_aload_n C 0 1 dJ0_indexOf_7cf53_0 rfl rfl ?_
  obtain ⟨g1, hf⟩ := grd_ex hf
  obtain ⟨q2, hq2, hf⟩ := bind_ex hf
  refine we_callV0i (As := []) C E 4 dJ0_indexOf_7cf53_1 rfl kv_J0_492 (c_J0_isLatin1_aae02 hq2) ⟨rfl, rfl⟩ ⟨Nat.le_of_ble_eq_true rfl, Nat.le_of_ble_eq_true rfl⟩ (rv_str E (of_decide_eq_true g1) rfl) rfl rfl ⟨Nat.zero_le _, Nat.zero_le _⟩ (Nat.le_of_ble_eq_true rfl) ?_
  refine wa_if_eq C 23 7 dJ0_indexOf_7cf53_4 rfl rfl (fun c4 => ?_) (fun c4 => ?_)
  · replace hf := ite_t hf c4
    refine wa_aload_n C 0 24 dJ0_indexOf_7cf53_23 rfl rfl ?_
    obtain ⟨g5, hf⟩ := grd_ex hf
    refine wa_value C E 27 dJ0_indexOf_7cf53_24 rfl (of_decide_eq_true g5) q2141 ?_
    refine wa_iload_n C 1 28 dJ0_indexOf_7cf53_27 rfl rfl ?_
    refine wa_iload_n C 2 29 dJ0_indexOf_7cf53_28 rfl rfl ?_
    refine wa_aload_n C 0 30 dJ0_indexOf_7cf53_29 rfl rfl ?_
    obtain ⟨g6, hf⟩ := grd_ex hf
    obtain ⟨q7, hq7, hf⟩ := bind_ex hf
    refine we_callV0i (As := []) C E 33 dJ0_indexOf_7cf53_30 rfl kv_J0_505 (c_J0_length_8abf5 hq7) ⟨rfl, rfl⟩ ⟨Nat.le_of_ble_eq_true rfl, Nat.le_of_ble_eq_true rfl⟩ (rv_str E (of_decide_eq_true g6) rfl) rfl rfl ⟨Nat.zero_le _, Nat.zero_le _⟩ (Nat.le_of_ble_eq_true rfl) ?_
    cases hf
  · replace hf := ite_f hf c4
    refine wa_aload_n C 0 8 dJ0_indexOf_7cf53_7 rfl rfl ?_
    obtain ⟨g9, hf⟩ := grd_ex hf
    refine wa_value C E 11 dJ0_indexOf_7cf53_8 rfl (of_decide_eq_true g9) q2141 ?_
    refine wa_iload_n C 1 12 dJ0_indexOf_7cf53_11 rfl rfl ?_
    refine wa_iload_n C 2 13 dJ0_indexOf_7cf53_12 rfl rfl ?_
    refine wa_aload_n C 0 14 dJ0_indexOf_7cf53_13 rfl rfl ?_
    obtain ⟨g10, hf⟩ := grd_ex hf
    obtain ⟨q11, hq11, hf⟩ := bind_ex hf
    refine we_callV0i (As := []) C E 17 dJ0_indexOf_7cf53_14 rfl kv_J0_505 (c_J0_length_8abf5 hq11) ⟨rfl, rfl⟩ ⟨Nat.le_of_ble_eq_true rfl, Nat.le_of_ble_eq_true rfl⟩ (rv_str E (of_decide_eq_true g10) rfl) rfl rfl ⟨Nat.zero_le _, Nat.zero_le _⟩ (Nat.le_of_ble_eq_true rfl) ?_
    obtain ⟨q13, hq13, hf⟩ := bind_ex hf
    refine we_callS0i (As := [.ref (aV i0), .int p0, .int p1, .int q11]) C E 20 dJ0_indexOf_7cf53_17 rfl ks_J0_637 (c_J1_indexOf_4cfef hq13) ⟨rfl, rfl⟩ ⟨Nat.le_of_ble_eq_true rfl, Nat.le_of_ble_eq_true rfl⟩ rfl rfl ⟨Nat.zero_le _, Nat.zero_le _⟩ (Nat.le_of_ble_eq_true rfl) ?_
    refine wa_goto C 36 dJ0_indexOf_7cf53_20 rfl ?_
    cases hf
    exact wa_iret C dJ0_indexOf_7cf53_36 rfl rfl
theorem kv_J0_633 : KV "java/lang/String" 633 yJ0_indexOf_7cf53 cJ0_indexOf_7cf53 3 (some .int) 2 := KV.mk q715 q716 q717 q19 q718 ⟨by decide, by decide, by decide +kernel⟩
def f_J0_indexOf_0f7a4 (i0 : Nat) (p0 : Int32) : Option (Int32) := grd (decide (i0 < nS)) ((f_J0_indexOf_7cf53 i0 p0 (0 : Int32)).bind (fun q2 => some (q2)))
set_option maxRecDepth 20000 in
theorem c_J0_indexOf_0f7a4 {l : Launch} {D : va_G} {dT : Nat → ClassId} {aK aV : Nat → Nat} {i0 : Nat} {p0 : Int32} {res : Int32} (hf : f_J0_indexOf_0f7a4 i0 p0 = some res) : CEi aK aV l yJ0_indexOf_0f7a4 cJ0_indexOf_0f7a4 2 (some .int) ({ frames := 5, cells := 0, slots := 0, locals := 105 } : Room) D dT [.ref (aK i0), .int p0] ([]) ([]) res := by
  refine CEi.of (by decide) (Nat.le_of_ble_eq_true rfl) rfl ?_
  intro p e s m args below meth c A C E
  unfold f_J0_indexOf_0f7a4 at hf
  refine wa_aload_n C 0 1 dJ0_indexOf_0f7a4_0 rfl rfl ?_
  refine wa_iload_n C 1 2 dJ0_indexOf_0f7a4_1 rfl rfl ?_
  refine wa_iconst (v := 0) C 3 dJ0_indexOf_0f7a4_2 rfl rfl ?_
  obtain ⟨g1, hf⟩ := grd_ex hf
  obtain ⟨q2, hq2, hf⟩ := bind_ex hf
  refine we_callV0i (As := [.int p0, .int (0 : Int32)]) C E 6 dJ0_indexOf_0f7a4_3 rfl kv_J0_633 (c_J0_indexOf_7cf53 hq2) ⟨rfl, rfl⟩ ⟨Nat.le_of_ble_eq_true rfl, Nat.le_of_ble_eq_true rfl⟩ (rv_str E (of_decide_eq_true g1) rfl) rfl rfl ⟨Nat.zero_le _, Nat.zero_le _⟩ (Nat.le_of_ble_eq_true rfl) ?_
  cases hf
  exact wa_iret C dJ0_indexOf_0f7a4_6 rfl rfl
