def f_X6_ruleLine (v : Ob) (ut : (Nat → Int32)) (v0 : Ob) (nt : Nat) (p1 : Int32) : Option (Int32 × Ob × Ob) := (if (v0.1 0) = 0 then bnd (upd v0.1 0 (1 : Int32), v0.2) (fun y2 => grd (bz p1) (bnd (upd v.1 10 p1, v.2) (fun y4 => (f_X6_next y4 ut nt).bind (fun q5 => (fx_expr 8 q5 ut y2 nt (0 : Int32)).bind (fun q7 => (if q7.1 = 0 then (f_X6_lineEnd q7.2.1 ut nt).bind (fun q10 => some (q10.1, q10.2, q7.2.2)) else some (q7.1, q7.2.1, q7.2.2))))))) else some ((5 : Int32), v, v0))
set_option maxRecDepth 20000 in
theorem c_X6_ruleLine {l : Launch} {D : va_G} {dT : Nat → ClassId} {a : Nat → Nat} {bt : Nat} {a0 : Nat → Nat} {h_village : Nat} {h_friends : Nat} {h_picks : Nat} {h_keeps : Nat} {aK aV : Nat → Nat} {nt : Nat} {v : Ob} {ut : (Nat → Int32)} {v0 : Ob} {p1 : Int32} {res : Int32 × Ob × Ob} (hf : f_X6_ruleLine v ut v0 nt p1 = some res) : CEi aK aV l yX6_ruleLine cX6_ruleLine 4 (some .int) ({ frames := 105, cells := 0, slots := 0, locals := 4824 } : Room) D dT [.ref (a 0), .ref (a0 0), .int p1] ([wRd dT a h_village h_friends h_picks h_keeps bt v, [(bt, .inl (dT 2, nt, .inl ut))], wR dT a0 v0]) ([wRd dT a h_village h_friends h_picks h_keeps bt res.2.1, [(bt, .inl (dT 2, nt, .inl ut))], wR dT a0 res.2.2]) res.1 := by
  refine CEi.of (by decide) (Nat.le_of_ble_eq_true rfl) rfl ?_
  intro p e s m args below meth c A C E
  unfold f_X6_ruleLine at hf
  refine wa_aload_n C 1 1 dX6_ruleLine_0 rfl rfl ?_
  refine wa_get C 4 2 0 0 dX6_ruleLine_1 rfl iX7 q144 rfl (Nat.le_of_ble_eq_true rfl) rfl rfl rfl ?_
  refine wa_if_eq C 9 7 dX6_ruleLine_4 rfl rfl (fun c1 => ?_) (fun c1 => ?_)
  · replace hf := ite_t hf c1
    refine wa_aload_n C 1 10 dX6_ruleLine_9 rfl rfl ?_
    refine wa_iconst (v := 1) C 11 dX6_ruleLine_10 rfl rfl ?_
    obtain ⟨y2, ey2, hf⟩ := bnd_ex hf
    refine wa_put (ws' := [wRd dT a h_village h_friends h_picks h_keeps bt v, [(bt, .inl (dT 2, nt, .inl ut))], wR dT a0 y2]) C 14 2 0 0 tyX7 dX6_ruleLine_11 rfl iX7 tyX7_ok nmX7 q144 rfl (Nat.le_of_ble_eq_true rfl) rfl rfl rfl rfl rfl (Nat.le_of_ble_eq_true rfl) (by rw [ey2]; rfl) ?_
    refine wa_aload_n C 0 15 dX6_ruleLine_14 rfl rfl ?_
    refine wa_iload_n C 2 16 dX6_ruleLine_15 rfl rfl ?_
    obtain ⟨g3, hf⟩ := grd_ex hf
    obtain ⟨y4, ey4, hf⟩ := bnd_ex hf
    refine wa_put (ws' := [wRd dT a h_village h_friends h_picks h_keeps bt y4, [(bt, .inl (dT 2, nt, .inl ut))], wR dT a0 y2]) C 19 0 0 10 tyX6 dX6_ruleLine_16 rfl iX6 tyX6_ok nmX6 q171 rfl (Nat.le_of_ble_eq_true rfl) rfl rfl rfl (bz_nar g3) (bz_fit g3) (Nat.le_of_ble_eq_true rfl) (by rw [ey4]; rfl) ?_
    refine wa_aload_n C 0 20 dX6_ruleLine_19 rfl rfl ?_
    obtain ⟨q5, hq5, hf⟩ := bind_ex hf
    refine we_callVv (ws' := [wRd dT a h_village h_friends h_picks h_keeps bt q5, [(bt, .inl (dT 2, nt, .inl ut))], wR dT a0 y2]) (As := []) C E 23 dX6_ruleLine_20 rfl kv_X6_72 (c_X6_next hq5) ⟨rfl, rfl⟩ ⟨Nat.le_of_ble_eq_true rfl, Nat.le_of_ble_eq_true rfl⟩ (rv_obj (ci := 6) C 0 0 rfl rfl rfl) [0, 1] [2] [1, 2, 0] rfl rfl rfl rfl (by decide) rfl rfl rfl rfl ⟨Nat.zero_le _, Nat.zero_le _⟩ (Nat.le_of_ble_eq_true rfl) ?_
    refine wa_aload_n C 0 24 dX6_ruleLine_23 rfl rfl ?_
    refine wa_aload_n C 1 25 dX6_ruleLine_24 rfl rfl ?_
    refine wa_iconst (v := 0) C 26 dX6_ruleLine_25 rfl rfl ?_
    obtain ⟨q7, hq7, hf⟩ := bind_ex hf
    refine we_callVi (ws' := [wRd dT a h_village h_friends h_picks h_keeps bt q7.2.1, [(bt, .inl (dT 2, nt, .inl ut))], wR dT a0 q7.2.2]) (As := [.ref (a0 0), .int (0 : Int32)]) C E 29 dX6_ruleLine_26 rfl kv_X6_163 (cx_expr 8 hq7) ⟨rfl, rfl⟩ ⟨Nat.le_of_ble_eq_true rfl, Nat.le_of_ble_eq_true rfl⟩ (rv_obj (ci := 6) C 0 0 rfl rfl rfl) [0, 1, 2] [] [0, 1, 2] rfl rfl rfl rfl (by decide) rfl rfl rfl rfl ⟨Nat.zero_le _, Nat.zero_le _⟩ (Nat.le_of_ble_eq_true rfl) ?_
    refine wa_istore_n (lv' := [(0, .ref (a 0)), (1, .ref (a0 0)), (2, .int p1), (3, .int q7.1)]) C [1, 2, 3, 0] 30 dX6_ruleLine_29 rfl (Nat.le_of_ble_eq_true rfl) rfl ?_
    refine wa_iload_n C 3 31 dX6_ruleLine_30 rfl rfl ?_
    refine wa_if_eq C 38 34 dX6_ruleLine_31 rfl rfl (fun c9 => ?_) (fun c9 => ?_)
    · replace hf := ite_t hf c9
      refine wa_aload_n C 0 39 dX6_ruleLine_38 rfl rfl ?_
      obtain ⟨q10, hq10, hf⟩ := bind_ex hf
      refine we_callVi (ws' := [wRd dT a h_village h_friends h_picks h_keeps bt q10.2, [(bt, .inl (dT 2, nt, .inl ut))], wR dT a0 q7.2.2]) (As := []) C E 42 dX6_ruleLine_39 rfl kv_X6_134 (c_X6_lineEnd hq10) ⟨rfl, rfl⟩ ⟨Nat.le_of_ble_eq_true rfl, Nat.le_of_ble_eq_true rfl⟩ (rv_obj (ci := 6) C 0 0 rfl rfl rfl) [0, 1] [2] [1, 2, 0] rfl rfl rfl rfl (by decide) rfl rfl rfl rfl ⟨Nat.zero_le _, Nat.zero_le _⟩ (Nat.le_of_ble_eq_true rfl) ?_
      cases hf
      exact wa_iret C dX6_ruleLine_42 rfl rfl
    · replace hf := ite_f hf c9
      refine wa_iload_n C 3 35 dX6_ruleLine_34 rfl rfl ?_
      refine wa_goto C 42 dX6_ruleLine_35 rfl ?_
      cases hf
      exact wa_iret C dX6_ruleLine_42 rfl rfl
  · replace hf := ite_f hf c1
    refine wa_iconst (v := 5) C 8 dX6_ruleLine_7 rfl rfl ?_
    cases hf
    exact wa_iret C dX6_ruleLine_8 rfl rfl
theorem kv_X6_109 : KV RX6 109 yX6_personLine cX6_personLine 1 (some .int) 0 := KV.mk q825 q827 qs18 q2 q828 ⟨by decide, by decide, by decide +kernel⟩
theorem kv_X6_114 : KV RX6 114 yX6_houseLine cX6_houseLine 4 (some .int) 0 := KV.mk q838 q840 qs20 q2 q841 ⟨by decide, by decide, by decide +kernel⟩
theorem kv_X6_118 : KV RX6 118 yX6_friendsLine cX6_friendsLine 3 (some .int) 0 := KV.mk q853 q855 qs23 q2 q856 ⟨by decide, by decide, by decide +kernel⟩
theorem kv_X6_122 : KV RX6 122 yX6_ruleLine cX6_ruleLine 4 (some .int) 2 := KV.mk q866 q868 qs24 q2 q869 ⟨by decide, by decide, by decide +kernel⟩
def f_X6_line (v : Ob) (v_v : Ob) (v_f : Ob) (v_p : Ob) (v_k : Ob) (ut : (Nat → Int32)) (nt : Nat) : Option (Int32 × Ob × Ob × Ob × Ob × Ob) := (f_X6_isWord v ut nt 2).bind (fun q1 => (if q1 = 0 then (f_X6_isWord v ut nt 3).bind (fun q4 => (if q4 = 0 then (f_X6_isWord v ut nt 4).bind (fun q7 => (if q7 = 0 then (f_X6_isWord v ut nt 5).bind (fun q10 => (if q10 = 0 then (f_X6_isWord v ut nt 17).bind (fun q13 => (if q13 = 0 then some ((1 : Int32), v, v_v, v_f, v_p, v_k) else (f_X6_ruleLine v ut v_k nt (0 : Int32)).bind (fun q16 => some (q16.1, q16.2.1, v_v, v_f, v_p, q16.2.2)))) else (f_X6_ruleLine v ut v_p nt (1 : Int32)).bind (fun q18 => some (q18.1, q18.2.1, v_v, v_f, q18.2.2, v_k)))) else (f_X6_friendsLine v v_v v_f ut nt).bind (fun q20 => some (q20.1, q20.2.1, v_v, q20.2.2, v_p, v_k)))) else (f_X6_houseLine v v_v ut nt).bind (fun q22 => some (q22.1, q22.2.1, q22.2.2, v_f, v_p, v_k)))) else (f_X6_personLine v v_v ut nt).bind (fun q24 => some (q24.1, q24.2.1, q24.2.2, v_f, v_p, v_k))))
set_option maxRecDepth 20000 in
theorem c_X6_line {l : Launch} {D : va_G} {dT : Nat → ClassId} {a : Nat → Nat} {a_v : Nat → Nat} {a_f : Nat → Nat} {a_p : Nat → Nat} {a_k : Nat → Nat} {bt : Nat} {aK aV : Nat → Nat} {nt : Nat} {v : Ob} {v_v : Ob} {v_f : Ob} {v_p : Ob} {v_k : Ob} {ut : (Nat → Int32)} {res : Int32 × Ob × Ob × Ob × Ob × Ob} (hf : f_X6_line v v_v v_f v_p v_k ut nt = some res) : CEi aK aV l yX6_line cX6_line 1 (some .int) ({ frames := 106, cells := 0, slots := 0, locals := 4847 } : Room) D dT [.ref (a 0)] ([wRd dT a (a_v 0) (a_f 0) (a_p 0) (a_k 0) bt v, wV dT a_v v_v, wF dT a_f v_f, wR dT a_p v_p, wR dT a_k v_k, [(bt, .inl (dT 2, nt, .inl ut))]]) ([wRd dT a (a_v 0) (a_f 0) (a_p 0) (a_k 0) bt res.2.1, wV dT a_v res.2.2.1, wF dT a_f res.2.2.2.1, wR dT a_p res.2.2.2.2.1, wR dT a_k res.2.2.2.2.2, [(bt, .inl (dT 2, nt, .inl ut))]]) res.1 := by
  refine CEi.of (by decide) (Nat.le_of_ble_eq_true rfl) rfl ?_
  intro p e s m args below meth c A C E
  unfold f_X6_line at hf
  refine wa_aload_n C 0 1 dX6_line_0 rfl rfl ?_
  refine wa_ldcS C E 2 3 dX6_line_1 rfl rfl ?_
  obtain ⟨q1, hq1, hf⟩ := bind_ex hf
  refine we_callVi (ws' := [wRd dT a (a_v 0) (a_f 0) (a_p 0) (a_k 0) bt v, wV dT a_v v_v, wF dT a_f v_f, wR dT a_p v_p, wR dT a_k v_k, [(bt, .inl (dT 2, nt, .inl ut))]]) (As := [.ref (aK 2)]) C E 6 dX6_line_3 rfl kv_X6_105 (c_X6_isWord hq1) ⟨rfl, rfl⟩ ⟨Nat.le_of_ble_eq_true rfl, Nat.le_of_ble_eq_true rfl⟩ (rv_obj (ci := 6) C 0 0 rfl rfl rfl) [0, 5] [1, 2, 3, 4] [4, 0, 1, 2, 3, 5] rfl rfl rfl rfl (by decide) rfl rfl rfl rfl ⟨Nat.zero_le _, Nat.zero_le _⟩ (Nat.le_of_ble_eq_true rfl) ?_
  refine wa_if_eq C 14 9 dX6_line_6 rfl rfl (fun c3 => ?_) (fun c3 => ?_)
  · replace hf := ite_t hf c3
    refine wa_aload_n C 0 15 dX6_line_14 rfl rfl ?_
    refine wa_ldcS C E 3 17 dX6_line_15 rfl rfl ?_
    obtain ⟨q4, hq4, hf⟩ := bind_ex hf
    refine we_callVi (ws' := [wRd dT a (a_v 0) (a_f 0) (a_p 0) (a_k 0) bt v, wV dT a_v v_v, wF dT a_f v_f, wR dT a_p v_p, wR dT a_k v_k, [(bt, .inl (dT 2, nt, .inl ut))]]) (As := [.ref (aK 3)]) C E 20 dX6_line_17 rfl kv_X6_105 (c_X6_isWord hq4) ⟨rfl, rfl⟩ ⟨Nat.le_of_ble_eq_true rfl, Nat.le_of_ble_eq_true rfl⟩ (rv_obj (ci := 6) C 0 0 rfl rfl rfl) [0, 5] [1, 2, 3, 4] [4, 0, 1, 2, 3, 5] rfl rfl rfl rfl (by decide) rfl rfl rfl rfl ⟨Nat.zero_le _, Nat.zero_le _⟩ (Nat.le_of_ble_eq_true rfl) ?_
    refine wa_if_eq C 28 23 dX6_line_20 rfl rfl (fun c6 => ?_) (fun c6 => ?_)
    · replace hf := ite_t hf c6
      refine wa_aload_n C 0 29 dX6_line_28 rfl rfl ?_
      refine wa_ldcS C E 4 31 dX6_line_29 rfl rfl ?_
      obtain ⟨q7, hq7, hf⟩ := bind_ex hf
      refine we_callVi (ws' := [wRd dT a (a_v 0) (a_f 0) (a_p 0) (a_k 0) bt v, wV dT a_v v_v, wF dT a_f v_f, wR dT a_p v_p, wR dT a_k v_k, [(bt, .inl (dT 2, nt, .inl ut))]]) (As := [.ref (aK 4)]) C E 34 dX6_line_31 rfl kv_X6_105 (c_X6_isWord hq7) ⟨rfl, rfl⟩ ⟨Nat.le_of_ble_eq_true rfl, Nat.le_of_ble_eq_true rfl⟩ (rv_obj (ci := 6) C 0 0 rfl rfl rfl) [0, 5] [1, 2, 3, 4] [4, 0, 1, 2, 3, 5] rfl rfl rfl rfl (by decide) rfl rfl rfl rfl ⟨Nat.zero_le _, Nat.zero_le _⟩ (Nat.le_of_ble_eq_true rfl) ?_
      refine wa_if_eq C 42 37 dX6_line_34 rfl rfl (fun c9 => ?_) (fun c9 => ?_)
      · replace hf := ite_t hf c9
        refine wa_aload_n C 0 43 dX6_line_42 rfl rfl ?_
        refine wa_ldcS C E 5 45 dX6_line_43 rfl rfl ?_
        obtain ⟨q10, hq10, hf⟩ := bind_ex hf
        refine we_callVi (ws' := [wRd dT a (a_v 0) (a_f 0) (a_p 0) (a_k 0) bt v, wV dT a_v v_v, wF dT a_f v_f, wR dT a_p v_p, wR dT a_k v_k, [(bt, .inl (dT 2, nt, .inl ut))]]) (As := [.ref (aK 5)]) C E 48 dX6_line_45 rfl kv_X6_105 (c_X6_isWord hq10) ⟨rfl, rfl⟩ ⟨Nat.le_of_ble_eq_true rfl, Nat.le_of_ble_eq_true rfl⟩ (rv_obj (ci := 6) C 0 0 rfl rfl rfl) [0, 5] [1, 2, 3, 4] [4, 0, 1, 2, 3, 5] rfl rfl rfl rfl (by decide) rfl rfl rfl rfl ⟨Nat.zero_le _, Nat.zero_le _⟩ (Nat.le_of_ble_eq_true rfl) ?_
        refine wa_if_eq C 61 51 dX6_line_48 rfl rfl (fun c12 => ?_) (fun c12 => ?_)
        · replace hf := ite_t hf c12
          refine wa_aload_n C 0 62 dX6_line_61 rfl rfl ?_
          refine wa_ldcS C E 17 64 dX6_line_62 rfl rfl ?_
          obtain ⟨q13, hq13, hf⟩ := bind_ex hf
          refine we_callVi (ws' := [wRd dT a (a_v 0) (a_f 0) (a_p 0) (a_k 0) bt v, wV dT a_v v_v, wF dT a_f v_f, wR dT a_p v_p, wR dT a_k v_k, [(bt, .inl (dT 2, nt, .inl ut))]]) (As := [.ref (aK 17)]) C E 67 dX6_line_64 rfl kv_X6_105 (c_X6_isWord hq13) ⟨rfl, rfl⟩ ⟨Nat.le_of_ble_eq_true rfl, Nat.le_of_ble_eq_true rfl⟩ (rv_obj (ci := 6) C 0 0 rfl rfl rfl) [0, 5] [1, 2, 3, 4] [4, 0, 1, 2, 3, 5] rfl rfl rfl rfl (by decide) rfl rfl rfl rfl ⟨Nat.zero_le _, Nat.zero_le _⟩ (Nat.le_of_ble_eq_true rfl) ?_
          refine wa_if_eq C 80 70 dX6_line_67 rfl rfl (fun c15 => ?_) (fun c15 => ?_)
          · replace hf := ite_t hf c15
            refine wa_iconst (v := 1) C 81 dX6_line_80 rfl rfl ?_
            cases hf
            exact wa_iret C dX6_line_81 rfl rfl
          · replace hf := ite_f hf c15
            refine wa_aload_n C 0 71 dX6_line_70 rfl rfl ?_
            refine wa_aload_n C 0 72 dX6_line_71 rfl rfl ?_
            refine wa_get C 75 0 0 3 dX6_line_72 rfl iX6 q163 rfl (Nat.le_of_ble_eq_true rfl) rfl rfl rfl ?_
            refine wa_iconst (v := 0) C 76 dX6_line_75 rfl rfl ?_
            obtain ⟨q16, hq16, hf⟩ := bind_ex hf
            refine we_callVi (ws' := [wRd dT a (a_v 0) (a_f 0) (a_p 0) (a_k 0) bt q16.2.1, wV dT a_v v_v, wF dT a_f v_f, wR dT a_p v_p, wR dT a_k q16.2.2, [(bt, .inl (dT 2, nt, .inl ut))]]) (As := [.ref (a_k 0), .int (0 : Int32)]) C E 79 dX6_line_76 rfl kv_X6_122 (c_X6_ruleLine hq16) ⟨rfl, rfl⟩ ⟨Nat.le_of_ble_eq_true rfl, Nat.le_of_ble_eq_true rfl⟩ (rv_obj (ci := 6) C 0 0 rfl rfl rfl) [0, 5, 4] [1, 2, 3] [3, 0, 1, 2, 5, 4] rfl rfl rfl rfl (by decide) rfl rfl rfl rfl ⟨Nat.zero_le _, Nat.zero_le _⟩ (Nat.le_of_ble_eq_true rfl) ?_
            cases hf
            exact wa_iret C dX6_line_79 rfl rfl
        · replace hf := ite_f hf c12
          refine wa_aload_n C 0 52 dX6_line_51 rfl rfl ?_
          refine wa_aload_n C 0 53 dX6_line_52 rfl rfl ?_
          refine wa_get C 56 0 0 2 dX6_line_53 rfl iX6 q161 rfl (Nat.le_of_ble_eq_true rfl) rfl rfl rfl ?_
          refine wa_iconst (v := 1) C 57 dX6_line_56 rfl rfl ?_
          obtain ⟨q18, hq18, hf⟩ := bind_ex hf
          refine we_callVi (ws' := [wRd dT a (a_v 0) (a_f 0) (a_p 0) (a_k 0) bt q18.2.1, wV dT a_v v_v, wF dT a_f v_f, wR dT a_p q18.2.2, wR dT a_k v_k, [(bt, .inl (dT 2, nt, .inl ut))]]) (As := [.ref (a_p 0), .int (1 : Int32)]) C E 60 dX6_line_57 rfl kv_X6_122 (c_X6_ruleLine hq18) ⟨rfl, rfl⟩ ⟨Nat.le_of_ble_eq_true rfl, Nat.le_of_ble_eq_true rfl⟩ (rv_obj (ci := 6) C 0 0 rfl rfl rfl) [0, 5, 3] [1, 2, 4] [3, 0, 1, 5, 2, 4] rfl rfl rfl rfl (by decide) rfl rfl rfl rfl ⟨Nat.zero_le _, Nat.zero_le _⟩ (Nat.le_of_ble_eq_true rfl) ?_
          cases hf
          exact wa_iret C dX6_line_60 rfl rfl
      · replace hf := ite_f hf c9
        refine wa_aload_n C 0 38 dX6_line_37 rfl rfl ?_
        obtain ⟨q20, hq20, hf⟩ := bind_ex hf
        refine we_callVi (ws' := [wRd dT a (a_v 0) (a_f 0) (a_p 0) (a_k 0) bt q20.2.1, wV dT a_v v_v, wF dT a_f q20.2.2, wR dT a_p v_p, wR dT a_k v_k, [(bt, .inl (dT 2, nt, .inl ut))]]) (As := []) C E 41 dX6_line_38 rfl kv_X6_118 (c_X6_friendsLine hq20) ⟨rfl, rfl⟩ ⟨Nat.le_of_ble_eq_true rfl, Nat.le_of_ble_eq_true rfl⟩ (rv_obj (ci := 6) C 0 0 rfl rfl rfl) [0, 1, 2, 5] [3, 4] [2, 3, 4, 0, 1, 5] rfl rfl rfl rfl (by decide) rfl rfl rfl rfl ⟨Nat.zero_le _, Nat.zero_le _⟩ (Nat.le_of_ble_eq_true rfl) ?_
        cases hf
        exact wa_iret C dX6_line_41 rfl rfl
    · replace hf := ite_f hf c6
      refine wa_aload_n C 0 24 dX6_line_23 rfl rfl ?_
      obtain ⟨q22, hq22, hf⟩ := bind_ex hf
      refine we_callVi (ws' := [wRd dT a (a_v 0) (a_f 0) (a_p 0) (a_k 0) bt q22.2.1, wV dT a_v q22.2.2, wF dT a_f v_f, wR dT a_p v_p, wR dT a_k v_k, [(bt, .inl (dT 2, nt, .inl ut))]]) (As := []) C E 27 dX6_line_24 rfl kv_X6_114 (c_X6_houseLine hq22) ⟨rfl, rfl⟩ ⟨Nat.le_of_ble_eq_true rfl, Nat.le_of_ble_eq_true rfl⟩ (rv_obj (ci := 6) C 0 0 rfl rfl rfl) [0, 1, 5] [2, 3, 4] [3, 4, 0, 1, 2, 5] rfl rfl rfl rfl (by decide) rfl rfl rfl rfl ⟨Nat.zero_le _, Nat.zero_le _⟩ (Nat.le_of_ble_eq_true rfl) ?_
      cases hf
      exact wa_iret C dX6_line_27 rfl rfl
  · replace hf := ite_f hf c3
    refine wa_aload_n C 0 10 dX6_line_9 rfl rfl ?_
    obtain ⟨q24, hq24, hf⟩ := bind_ex hf
    refine we_callVi (ws' := [wRd dT a (a_v 0) (a_f 0) (a_p 0) (a_k 0) bt q24.2.1, wV dT a_v q24.2.2, wF dT a_f v_f, wR dT a_p v_p, wR dT a_k v_k, [(bt, .inl (dT 2, nt, .inl ut))]]) (As := []) C E 13 dX6_line_10 rfl kv_X6_109 (c_X6_personLine hq24) ⟨rfl, rfl⟩ ⟨Nat.le_of_ble_eq_true rfl, Nat.le_of_ble_eq_true rfl⟩ (rv_obj (ci := 6) C 0 0 rfl rfl rfl) [0, 1, 5] [2, 3, 4] [3, 4, 0, 1, 2, 5] rfl rfl rfl rfl (by decide) rfl rfl rfl rfl ⟨Nat.zero_le _, Nat.zero_le _⟩ (Nat.le_of_ble_eq_true rfl) ?_
    cases hf
    exact wa_iret C dX6_line_13 rfl rfl
def f_X6_houseTheRest_L2 (z0 : Ob) : Nat → Int32 → Ob → Option (Ob)
  | 0, _, _ => none
  | n + 1, l1, z1 => (if (z1.1 0) ≤ l1 then some (z1) else grd (vi l1 12) ((if (z1.2 2 (l1).toNatClampNeg) = (-1 : Int32) then (f_X10_addHouse z1).bind (fun q5 => (f_X10_enter q5.2 l1 q5.1).bind (fun q7 => bnd (l1 + 1) (fun x9 => f_X6_houseTheRest_L2 z0 n x9 q7))) else bnd (l1 + 1) (fun x4 => f_X6_houseTheRest_L2 z0 n x4 z1))))
def f_X6_houseTheRest (v : Ob) (v_v : Ob) : Option (Ob) := f_X6_houseTheRest_L2 v FUEL (0 : Int32) v_v
set_option maxRecDepth 20000 in
theorem w_X6_houseTheRest_L2 {p : Program} {l : Launch} {e : Env} {s : State} {m : MethodId} {args : Array Value} {below : List Frame} {meth : Method} {c : Code} {D : va_G} {A : Nat → Prop} {dT : Nat → ClassId} {a : Nat → Nat} {a_v : Nat → Nat} {h_friends : Nat} {h_picks : Nat} {h_keeps : Nat} {tx : Nat} {res : Ob} {z0 : Ob} (C : Cx p s m args meth c cX6_houseTheRest 2 RX6 none D A dT) : ∀ (n : Nat) (l1 : Int32) (z1 : Ob), f_X6_houseTheRest_L2 z0 n l1 z1 = some res → WA p l e ({ frames := 4, cells := 0, slots := 0, locals := 81 } : Room) s m args below meth c (MQ below (QV D dT A ([wRd dT a (a_v 0) h_friends h_picks h_keeps tx z0, wV dT a_v res])) args s 0 0 A) D A 0 0 2 2 ([wRd dT a (a_v 0) h_friends h_picks h_keeps tx z0, wV dT a_v z1]) [(0, .ref (a 0)), (1, .int l1)] [] := by
  intro n
  induction n with
  | zero => intro l1 z1 hf; cases hf
  | succ n ih =>
    intro l1 z1 hf
    unfold f_X6_houseTheRest_L2 at hf
    refine wa_iload_n C 1 3 dX6_houseTheRest_2 rfl rfl ?_
    refine wa_aload_n C 0 4 dX6_houseTheRest_3 rfl rfl ?_
    refine wa_get C 7 0 0 0 dX6_houseTheRest_4 rfl iX6 q157 rfl (Nat.le_of_ble_eq_true rfl) rfl rfl rfl ?_
    refine wa_get C 10 1 0 0 dX6_houseTheRest_7 rfl iX10 q54 rfl (Nat.le_of_ble_eq_true rfl) rfl rfl rfl ?_
    refine wa_icmp_ge C 47 13 dX6_houseTheRest_10 rfl rfl (fun c1 => ?_) (fun c1 => ?_)
    · replace hf := ite_t hf c1
      cases hf
      exact wa_vret C dX6_houseTheRest_47 rfl
    · replace hf := ite_f hf c1
      refine wa_aload_n C 0 14 dX6_houseTheRest_13 rfl rfl ?_
      refine wa_get C 17 0 0 0 dX6_houseTheRest_14 rfl iX6 q157 rfl (Nat.le_of_ble_eq_true rfl) rfl rfl rfl ?_
      refine wa_get C 20 1 0 4 dX6_houseTheRest_17 rfl iX10 q77 rfl (Nat.le_of_ble_eq_true rfl) rfl rfl rfl ?_
      refine wa_iload_n C 1 21 dX6_houseTheRest_20 rfl rfl ?_
      obtain ⟨g2, hf⟩ := grd_ex hf
      refine wa_iald C 22 1 2 dX6_houseTheRest_21 rfl rfl rfl (vi_in g2) ?_
      refine wa_iconst (v := (-1)) C 23 dX6_houseTheRest_22 rfl rfl ?_
      refine wa_icmp_ne C 41 26 dX6_houseTheRest_23 rfl rfl (fun c3 => ?_) (fun c3 => ?_)
      · replace hf := ite_f hf c3
        obtain ⟨x4, ex4, hf⟩ := bnd_ex hf
        refine wa_iinc (v := x4) (lv' := [(0, .ref (a 0)), (1, .int x4)]) C 1 [1, 0] 44 dX6_houseTheRest_41 rfl rfl (by rw [ex4]; rfl) (Nat.le_of_ble_eq_true rfl) rfl ?_
        refine wa_goto C 2 dX6_houseTheRest_44 rfl ?_
        exact ih x4 z1 hf
      · replace hf := ite_t hf c3
        refine wa_aload_n C 0 27 dX6_houseTheRest_26 rfl rfl ?_
        refine wa_get C 30 0 0 0 dX6_houseTheRest_27 rfl iX6 q157 rfl (Nat.le_of_ble_eq_true rfl) rfl rfl rfl ?_
        refine wa_iload_n C 1 31 dX6_houseTheRest_30 rfl rfl ?_
        refine wa_aload_n C 0 32 dX6_houseTheRest_31 rfl rfl ?_
        refine wa_get C 35 0 0 0 dX6_houseTheRest_32 rfl iX6 q157 rfl (Nat.le_of_ble_eq_true rfl) rfl rfl rfl ?_
        obtain ⟨q5, hq5, hf⟩ := bind_ex hf
        refine wa_callVi (b1 := 1) (q1 := 0) (ci := 10) (ws' := [wRd dT a (a_v 0) h_friends h_picks h_keeps tx z0, wV dT a_v q5.2]) (As := []) C 38 dX6_houseTheRest_35 rfl kv_X6_137 (c_X10_addHouse hq5) ⟨rfl, rfl⟩ ⟨Nat.le_of_ble_eq_true rfl, Nat.le_of_ble_eq_true rfl⟩ rfl rfl rfl [1] [0] [0, 1] rfl rfl rfl rfl (by decide) rfl rfl rfl rfl ⟨Nat.zero_le _, Nat.zero_le _⟩ (Nat.le_of_ble_eq_true rfl) ?_
        obtain ⟨q7, hq7, hf⟩ := bind_ex hf
        refine wa_callVv (b1 := 1) (q1 := 0) (ci := 10) (ws' := [wRd dT a (a_v 0) h_friends h_picks h_keeps tx z0, wV dT a_v q7]) (As := [.int l1, .int q5.1]) C 41 dX6_houseTheRest_38 rfl kv_X6_150 (c_X10_enter hq7) ⟨rfl, rfl⟩ ⟨Nat.le_of_ble_eq_true rfl, Nat.le_of_ble_eq_true rfl⟩ rfl rfl rfl [1] [0] [0, 1] rfl rfl rfl rfl (by decide) rfl rfl rfl rfl ⟨Nat.zero_le _, Nat.zero_le _⟩ (Nat.le_of_ble_eq_true rfl) ?_
        obtain ⟨x9, ex9, hf⟩ := bnd_ex hf
        refine wa_iinc (v := x9) (lv' := [(0, .ref (a 0)), (1, .int x9)]) C 1 [1, 0] 44 dX6_houseTheRest_41 rfl rfl (by rw [ex9]; rfl) (Nat.le_of_ble_eq_true rfl) rfl ?_
        refine wa_goto C 2 dX6_houseTheRest_44 rfl ?_
        exact ih x9 q7 hf
set_option maxRecDepth 20000 in
theorem c_X6_houseTheRest {l : Launch} {D : va_G} {dT : Nat → ClassId} {a : Nat → Nat} {a_v : Nat → Nat} {h_friends : Nat} {h_picks : Nat} {h_keeps : Nat} {tx : Nat} {v : Ob} {v_v : Ob} {res : Ob} (hf : f_X6_houseTheRest v v_v = some res) : CTv l yX6_houseTheRest cX6_houseTheRest 2 none ({ frames := 4, cells := 0, slots := 0, locals := 81 } : Room) D dT [.ref (a 0)] ([wRd dT a (a_v 0) h_friends h_picks h_keeps tx v, wV dT a_v v_v]) ([wRd dT a (a_v 0) h_friends h_picks h_keeps tx v, wV dT a_v res]) := by
  refine CTv.of (by decide) (Nat.le_of_ble_eq_true rfl) rfl ?_
  intro p e s m args below meth c A C
  unfold f_X6_houseTheRest at hf
  refine wa_iconst (v := 0) C 1 dX6_houseTheRest_0 rfl rfl ?_
  refine wa_istore_n (lv' := [(0, .ref (a 0)), (1, .int (0 : Int32))]) C [1, 0] 2 dX6_houseTheRest_1 rfl (Nat.le_of_ble_eq_true rfl) rfl ?_
  exact w_X6_houseTheRest_L2 C FUEL (0 : Int32) v_v hf
theorem kv_X6_65 : KV RX6 65 yX10_clear cX10_clear 1 none 0 := KV.mk q690 q691 q692 q3 q693 ⟨by decide, by decide, by decide +kernel⟩
theorem kv_X6_71 : KV RX6 71 yX7_clear cX7_clear 1 none 0 := KV.mk q694 q695 q696 q5 q697 ⟨by decide, by decide, by decide +kernel⟩
theorem kv_X6_75 : KV RX6 75 yX6_line cX6_line 1 (some .int) 0 := KV.mk q795 q797 qs16 q2 q798 ⟨by decide, by decide, by decide +kernel⟩
theorem kv_X6_79 : KV RX6 79 yX6_houseTheRest cX6_houseTheRest 2 none 0 := KV.mk q914 q916 qs32 q2 q917 ⟨by decide, by decide, by decide +kernel⟩
def f_X6_read_J89 (n0 : Nat) (z5 : (Nat → Int32)) (l3 : Int32) (z0 : Ob) (z1 : Ob) (z2 : Ob) (z3 : Ob) (z4 : Ob) : Option (Int32 × Ob × Ob × Ob × Ob × Ob) := (if l3 = 0 then (f_X6_houseTheRest z0 z1).bind (fun q14 => some (l3, z0, q14, z2, z3, z4)) else some (l3, z0, z1, z2, z3, z4))
def f_X6_read_L58 (n0 : Nat) (z5 : (Nat → Int32)) : Nat → Int32 → Int32 → Ob → Ob → Ob → Ob → Ob → Option (Int32 × Ob × Ob × Ob × Ob × Ob)
  | 0, _, _, _, _, _, _, _ => none
  | n + 1, l3, l4, z0, z1, z2, z3, z4 => (if (z0.1 5) < l4 then f_X6_read_J89 n0 z5 l3 z0 z1 z2 z3 z4 else (if (z0.1 8) = 0 then f_X6_read_J89 n0 z5 l3 z0 z1 z2 z3 z4 else (if l3 = 0 then (f_X6_line z0 z1 z2 z3 z4 z5 n0).bind (fun q18 => bnd (l4 + 1) (fun x20 => f_X6_read_L58 n0 z5 n q18.1 x20 q18.2.1 q18.2.2.1 q18.2.2.2.1 q18.2.2.2.2.1 q18.2.2.2.2.2)) else f_X6_read_J89 n0 z5 l3 z0 z1 z2 z3 z4)))
def f_X6_read (v : Ob) (v_v : Ob) (v_f : Ob) (v_p : Ob) (v_k : Ob) (u0 : (Nat → Int32)) (n0 : Nat) (p1 : Int32) : Option (Int32 × Ob × Ob × Ob × Ob × Ob) := bnd (upd v.1 5 (if (Int32.ofNat n0) < p1 then (Int32.ofNat n0) else p1), v.2) (fun y1 => bnd (upd y1.1 7 (0 : Int32), y1.2) (fun y2 => (f_X10_clear v_v).bind (fun q3 => bnd (upd v_f.1 0 (0 : Int32), v_f.2) (fun y5 => (f_X7_clear v_p).bind (fun q6 => (f_X7_clear v_k).bind (fun q8 => (f_X6_next y2 u0 n0).bind (fun q10 => f_X6_read_L58 n0 u0 FUEL (0 : Int32) (0 : Int32) q10 q3 y5 q6 q8)))))))
set_option maxRecDepth 20000 in
theorem w_X6_read_J89 {p : Program} {l : Launch} {e : Env} {s : State} {m : MethodId} {args : Array Value} {below : List Frame} {meth : Method} {c : Code} {D : va_G} {A : Nat → Prop} {dT : Nat → ClassId} {a : Nat → Nat} {a_v : Nat → Nat} {a_f : Nat → Nat} {a_p : Nat → Nat} {a_k : Nat → Nat} {b0 : Nat} {aK aV : Nat → Nat} {n0 : Nat} {res : Int32 × Ob × Ob × Ob × Ob × Ob} {z5 : (Nat → Int32)} (C : Cx p s m args meth c cX6_read 5 RX6 (some .int) D A dT) (E : AMB aK aV A s s.heap) : ∀ (l3 : Int32) (z0 : Ob) (z1 : Ob) (z2 : Ob) (z3 : Ob) (z4 : Ob), f_X6_read_J89 n0 z5 l3 z0 z1 z2 z3 z4 = some res → WA p l e ({ frames := 107, cells := 0, slots := 0, locals := 4867 } : Room) s m args below meth c (MQ below (QI D dT A ([wRd dT a (a_v 0) (a_f 0) (a_p 0) (a_k 0) b0 res.2.1, wV dT a_v res.2.2.1, wF dT a_f res.2.2.2.1, wR dT a_p res.2.2.2.2.1, wR dT a_k res.2.2.2.2.2, [(b0, .inl (dT 2, n0, .inl z5))]]) res.1) args s 0 0 A) D A 0 0 5 89 ([wRd dT a (a_v 0) (a_f 0) (a_p 0) (a_k 0) b0 z0, wV dT a_v z1, wF dT a_f z2, wR dT a_p z3, wR dT a_k z4, [(b0, .inl (dT 2, n0, .inl z5))]]) [(0, .ref (a 0)), (3, .int l3)] [] := by
  intro l3 z0 z1 z2 z3 z4 hf
  unfold f_X6_read_J89 at hf
  refine wa_iload_n C 1 90 dX6_read_89 rfl rfl ?_
  refine wa_if_ne C 97 93 dX6_read_90 rfl rfl (fun c13 => ?_) (fun c13 => ?_)
  · replace hf := ite_f hf c13
    refine wa_iload_n C 1 98 dX6_read_97 rfl rfl ?_
    cases hf
    exact wa_iret C dX6_read_98 rfl rfl
  · replace hf := ite_t hf c13
    refine wa_aload_n C 0 94 dX6_read_93 rfl rfl ?_
    obtain ⟨q14, hq14, hf⟩ := bind_ex hf
    refine wa_callVv (b1 := 0) (q1 := 0) (ci := 6) (ws' := [wRd dT a (a_v 0) (a_f 0) (a_p 0) (a_k 0) b0 z0, wV dT a_v q14, wF dT a_f z2, wR dT a_p z3, wR dT a_k z4, [(b0, .inl (dT 2, n0, .inl z5))]]) (As := []) C 97 dX6_read_94 rfl kv_X6_79 (c_X6_houseTheRest hq14) ⟨rfl, rfl⟩ ⟨Nat.le_of_ble_eq_true rfl, Nat.le_of_ble_eq_true rfl⟩ rfl rfl rfl [0, 1] [2, 3, 4, 5] [4, 5, 0, 1, 2, 3] rfl rfl rfl rfl (by decide) rfl rfl rfl rfl ⟨Nat.zero_le _, Nat.zero_le _⟩ (Nat.le_of_ble_eq_true rfl) ?_
    refine wa_iload_n C 1 98 dX6_read_97 rfl rfl ?_
    cases hf
    exact wa_iret C dX6_read_98 rfl rfl
set_option maxRecDepth 20000 in
theorem w_X6_read_L58 {p : Program} {l : Launch} {e : Env} {s : State} {m : MethodId} {args : Array Value} {below : List Frame} {meth : Method} {c : Code} {D : va_G} {A : Nat → Prop} {dT : Nat → ClassId} {a : Nat → Nat} {a_v : Nat → Nat} {a_f : Nat → Nat} {a_p : Nat → Nat} {a_k : Nat → Nat} {b0 : Nat} {aK aV : Nat → Nat} {n0 : Nat} {res : Int32 × Ob × Ob × Ob × Ob × Ob} {z5 : (Nat → Int32)} (C : Cx p s m args meth c cX6_read 5 RX6 (some .int) D A dT) (E : AMB aK aV A s s.heap) : ∀ (n : Nat) (l3 : Int32) (l4 : Int32) (z0 : Ob) (z1 : Ob) (z2 : Ob) (z3 : Ob) (z4 : Ob), f_X6_read_L58 n0 z5 n l3 l4 z0 z1 z2 z3 z4 = some res → WA p l e ({ frames := 107, cells := 0, slots := 0, locals := 4867 } : Room) s m args below meth c (MQ below (QI D dT A ([wRd dT a (a_v 0) (a_f 0) (a_p 0) (a_k 0) b0 res.2.1, wV dT a_v res.2.2.1, wF dT a_f res.2.2.2.1, wR dT a_p res.2.2.2.2.1, wR dT a_k res.2.2.2.2.2, [(b0, .inl (dT 2, n0, .inl z5))]]) res.1) args s 0 0 A) D A 0 0 5 58 ([wRd dT a (a_v 0) (a_f 0) (a_p 0) (a_k 0) b0 z0, wV dT a_v z1, wF dT a_f z2, wR dT a_p z3, wR dT a_k z4, [(b0, .inl (dT 2, n0, .inl z5))]]) [(0, .ref (a 0)), (3, .int l3), (4, .int l4)] [] := by
  intro n
  induction n with
  | zero => intro l3 l4 z0 z1 z2 z3 z4 hf; cases hf
  | succ n ih =>
    intro l3 l4 z0 z1 z2 z3 z4 hf
    unfold f_X6_read_L58 at hf
    refine wa_iload C 2 60 dX6_read_58 rfl rfl ?_
    refine wa_aload_n C 0 61 dX6_read_60 rfl rfl ?_
    refine wa_get C 64 0 0 5 dX6_read_61 rfl iX6 q166 rfl (Nat.le_of_ble_eq_true rfl) rfl rfl rfl ?_
    refine wa_icmp_gt C 89 67 dX6_read_64 rfl rfl (fun c12 => ?_) (fun c12 => ?_)
    · replace hf := ite_t hf c12
      refine wa_lv (lv' := [(0, .ref (a 0)), (3, .int l3)]) [0, 1] rfl ?_
      exact w_X6_read_J89 C E l3 z0 z1 z2 z3 z4 hf
    · replace hf := ite_f hf c12
      refine wa_aload_n C 0 68 dX6_read_67 rfl rfl ?_
      refine wa_get C 71 0 0 8 dX6_read_68 rfl iX6 q169 rfl (Nat.le_of_ble_eq_true rfl) rfl rfl rfl ?_
      refine wa_if_eq C 89 74 dX6_read_71 rfl rfl (fun c16 => ?_) (fun c16 => ?_)
      · replace hf := ite_t hf c16
        refine wa_lv (lv' := [(0, .ref (a 0)), (3, .int l3)]) [0, 1] rfl ?_
        exact w_X6_read_J89 C E l3 z0 z1 z2 z3 z4 hf
      · replace hf := ite_f hf c16
        refine wa_iload_n C 1 75 dX6_read_74 rfl rfl ?_
        refine wa_if_ne C 89 78 dX6_read_75 rfl rfl (fun c17 => ?_) (fun c17 => ?_)
        · replace hf := ite_f hf c17
          refine wa_lv (lv' := [(0, .ref (a 0)), (3, .int l3)]) [0, 1] rfl ?_
          exact w_X6_read_J89 C E l3 z0 z1 z2 z3 z4 hf
        · replace hf := ite_t hf c17
          refine wa_aload_n C 0 79 dX6_read_78 rfl rfl ?_
          obtain ⟨q18, hq18, hf⟩ := bind_ex hf
          refine we_callVi (ws' := [wRd dT a (a_v 0) (a_f 0) (a_p 0) (a_k 0) b0 q18.2.1, wV dT a_v q18.2.2.1, wF dT a_f q18.2.2.2.1, wR dT a_p q18.2.2.2.2.1, wR dT a_k q18.2.2.2.2.2, [(b0, .inl (dT 2, n0, .inl z5))]]) (As := []) C E 82 dX6_read_79 rfl kv_X6_75 (c_X6_line hq18) ⟨rfl, rfl⟩ ⟨Nat.le_of_ble_eq_true rfl, Nat.le_of_ble_eq_true rfl⟩ (rv_obj (ci := 6) C 0 0 rfl rfl rfl) [0, 1, 2, 3, 4, 5] [] [0, 1, 2, 3, 4, 5] rfl rfl rfl rfl (by decide) rfl rfl rfl rfl ⟨Nat.zero_le _, Nat.zero_le _⟩ (Nat.le_of_ble_eq_true rfl) ?_
          refine wa_istore_n (lv' := [(0, .ref (a 0)), (3, .int q18.1), (4, .int l4)]) C [1, 0, 2] 83 dX6_read_82 rfl (Nat.le_of_ble_eq_true rfl) rfl ?_
          obtain ⟨x20, ex20, hf⟩ := bnd_ex hf
          refine wa_iinc (v := x20) (lv' := [(0, .ref (a 0)), (3, .int q18.1), (4, .int x20)]) C 2 [1, 2, 0] 86 dX6_read_83 rfl rfl (by rw [ex20]; rfl) (Nat.le_of_ble_eq_true rfl) rfl ?_
          refine wa_goto C 58 dX6_read_86 rfl ?_
          exact ih q18.1 x20 q18.2.1 q18.2.2.1 q18.2.2.2.1 q18.2.2.2.2.1 q18.2.2.2.2.2 hf
set_option maxRecDepth 20000 in
theorem c_X6_read {l : Launch} {D : va_G} {dT : Nat → ClassId} {a : Nat → Nat} {a_v : Nat → Nat} {a_f : Nat → Nat} {a_p : Nat → Nat} {a_k : Nat → Nat} {b0 : Nat} {tx : Nat} {aK aV : Nat → Nat} {n0 : Nat} {v : Ob} {v_v : Ob} {v_f : Ob} {v_p : Ob} {v_k : Ob} {u0 : (Nat → Int32)} {p1 : Int32} {res : Int32 × Ob × Ob × Ob × Ob × Ob} (hf : f_X6_read v v_v v_f v_p v_k u0 n0 p1 = some res) : CEi aK aV l yX6_read cX6_read 5 (some .int) ({ frames := 107, cells := 0, slots := 0, locals := 4867 } : Room) D dT [.ref (a 0), .ref b0, .int p1] ([wRd dT a (a_v 0) (a_f 0) (a_p 0) (a_k 0) tx v, wV dT a_v v_v, wF dT a_f v_f, wR dT a_p v_p, wR dT a_k v_k, [(b0, .inl (dT 2, n0, .inl u0))]]) ([wRd dT a (a_v 0) (a_f 0) (a_p 0) (a_k 0) b0 res.2.1, wV dT a_v res.2.2.1, wF dT a_f res.2.2.2.1, wR dT a_p res.2.2.2.2.1, wR dT a_k res.2.2.2.2.2, [(b0, .inl (dT 2, n0, .inl u0))]]) res.1 := by
  refine CEi.of (by decide) (Nat.le_of_ble_eq_true rfl) rfl ?_
  intro p e s m args below meth c A C E
  unfold f_X6_read at hf
  refine wa_aload_n C 0 1 dX6_read_0 rfl rfl ?_
  refine wa_aload_n C 1 2 dX6_read_1 rfl rfl ?_
  refine wa_put (ws' := [wRd dT a (a_v 0) (a_f 0) (a_p 0) (a_k 0) b0 v, wV dT a_v v_v, wF dT a_f v_f, wR dT a_p v_p, wR dT a_k v_k, [(b0, .inl (dT 2, n0, .inl u0))]]) C 5 0 0 4 tyX6 dX6_read_2 rfl iX6 tyX6_ok nmX6 q165 rfl (Nat.le_of_ble_eq_true rfl) rfl rfl rfl rfl rfl (Nat.le_of_ble_eq_true rfl) rfl ?_
  refine wa_aload_n C 0 6 dX6_read_5 rfl rfl ?_
  refine wa_iload_n C 2 7 dX6_read_6 rfl rfl ?_
  refine wa_aload_n C 1 8 dX6_read_7 rfl rfl ?_
  refine wa_alen (v := (Int32.ofNat n0)) C 9 5 0 2 dX6_read_8 rfl rfl rfl rfl rfl ?_
  refine wa_mmin C 12 dX6_read_9 rfl q689 q503 q18 q504 (Nat.le_of_ble_eq_true rfl) (Nat.le_of_ble_eq_true rfl) ⟨Nat.zero_le _, Nat.zero_le _⟩ ?_
  obtain ⟨y1, ey1, hf⟩ := bnd_ex hf
  refine wa_put (ws' := [wRd dT a (a_v 0) (a_f 0) (a_p 0) (a_k 0) b0 y1, wV dT a_v v_v, wF dT a_f v_f, wR dT a_p v_p, wR dT a_k v_k, [(b0, .inl (dT 2, n0, .inl u0))]]) C 15 0 0 5 tyX6 dX6_read_12 rfl iX6 tyX6_ok nmX6 q166 rfl (Nat.le_of_ble_eq_true rfl) rfl rfl rfl rfl rfl (Nat.le_of_ble_eq_true rfl) (by rw [ey1]; rfl) ?_
  refine wa_aload_n C 0 16 dX6_read_15 rfl rfl ?_
  refine wa_iconst (v := 0) C 17 dX6_read_16 rfl rfl ?_
  obtain ⟨y2, ey2, hf⟩ := bnd_ex hf
  refine wa_put (ws' := [wRd dT a (a_v 0) (a_f 0) (a_p 0) (a_k 0) b0 y2, wV dT a_v v_v, wF dT a_f v_f, wR dT a_p v_p, wR dT a_k v_k, [(b0, .inl (dT 2, n0, .inl u0))]]) C 20 0 0 7 tyX6 dX6_read_17 rfl iX6 tyX6_ok nmX6 q168 rfl (Nat.le_of_ble_eq_true rfl) rfl rfl rfl rfl rfl (Nat.le_of_ble_eq_true rfl) (by rw [ey2]; rfl) ?_
  refine wa_aload_n C 0 21 dX6_read_20 rfl rfl ?_
  refine wa_get C 24 0 0 0 dX6_read_21 rfl iX6 q157 rfl (Nat.le_of_ble_eq_true rfl) rfl rfl rfl ?_
  obtain ⟨q3, hq3, hf⟩ := bind_ex hf
  refine wa_callVv (b1 := 1) (q1 := 0) (ci := 10) (ws' := [wRd dT a (a_v 0) (a_f 0) (a_p 0) (a_k 0) b0 y2, wV dT a_v q3, wF dT a_f v_f, wR dT a_p v_p, wR dT a_k v_k, [(b0, .inl (dT 2, n0, .inl u0))]]) (As := []) C 27 dX6_read_24 rfl kv_X6_65 (c_X10_clear hq3) ⟨rfl, rfl⟩ ⟨Nat.le_of_ble_eq_true rfl, Nat.le_of_ble_eq_true rfl⟩ rfl rfl rfl [1] [0, 2, 3, 4, 5] [0, 5, 1, 2, 3, 4] rfl rfl rfl rfl (by decide) rfl rfl rfl rfl ⟨Nat.zero_le _, Nat.zero_le _⟩ (Nat.le_of_ble_eq_true rfl) ?_
  refine wa_aload_n C 0 28 dX6_read_27 rfl rfl ?_
  refine wa_get C 31 0 0 1 dX6_read_28 rfl iX6 q159 rfl (Nat.le_of_ble_eq_true rfl) rfl rfl rfl ?_
  refine wa_iconst (v := 0) C 32 dX6_read_31 rfl rfl ?_
  obtain ⟨y5, ey5, hf⟩ := bnd_ex hf
  refine wa_put (ws' := [wRd dT a (a_v 0) (a_f 0) (a_p 0) (a_k 0) b0 y2, wV dT a_v q3, wF dT a_f y5, wR dT a_p v_p, wR dT a_k v_k, [(b0, .inl (dT 2, n0, .inl u0))]]) C 35 2 0 0 tyX3 dX6_read_32 rfl iX3 tyX3_ok nmX3 q125 rfl (Nat.le_of_ble_eq_true rfl) rfl rfl rfl rfl rfl (Nat.le_of_ble_eq_true rfl) (by rw [ey5]; rfl) ?_
  refine wa_aload_n C 0 36 dX6_read_35 rfl rfl ?_
  refine wa_get C 39 0 0 2 dX6_read_36 rfl iX6 q161 rfl (Nat.le_of_ble_eq_true rfl) rfl rfl rfl ?_
  obtain ⟨q6, hq6, hf⟩ := bind_ex hf
  refine wa_callVv (b1 := 3) (q1 := 0) (ci := 7) (ws' := [wRd dT a (a_v 0) (a_f 0) (a_p 0) (a_k 0) b0 y2, wV dT a_v q3, wF dT a_f y5, wR dT a_p q6, wR dT a_k v_k, [(b0, .inl (dT 2, n0, .inl u0))]]) (As := []) C 42 dX6_read_39 rfl kv_X6_71 (c_X7_clear hq6) ⟨rfl, rfl⟩ ⟨Nat.le_of_ble_eq_true rfl, Nat.le_of_ble_eq_true rfl⟩ rfl rfl rfl [3] [0, 1, 2, 4, 5] [0, 1, 2, 5, 3, 4] rfl rfl rfl rfl (by decide) rfl rfl rfl rfl ⟨Nat.zero_le _, Nat.zero_le _⟩ (Nat.le_of_ble_eq_true rfl) ?_
  refine wa_aload_n C 0 43 dX6_read_42 rfl rfl ?_
  refine wa_get C 46 0 0 3 dX6_read_43 rfl iX6 q163 rfl (Nat.le_of_ble_eq_true rfl) rfl rfl rfl ?_
  obtain ⟨q8, hq8, hf⟩ := bind_ex hf
  refine wa_callVv (b1 := 4) (q1 := 0) (ci := 7) (ws' := [wRd dT a (a_v 0) (a_f 0) (a_p 0) (a_k 0) b0 y2, wV dT a_v q3, wF dT a_f y5, wR dT a_p q6, wR dT a_k q8, [(b0, .inl (dT 2, n0, .inl u0))]]) (As := []) C 49 dX6_read_46 rfl kv_X6_71 (c_X7_clear hq8) ⟨rfl, rfl⟩ ⟨Nat.le_of_ble_eq_true rfl, Nat.le_of_ble_eq_true rfl⟩ rfl rfl rfl [4] [0, 1, 2, 3, 5] [0, 1, 2, 3, 5, 4] rfl rfl rfl rfl (by decide) rfl rfl rfl rfl ⟨Nat.zero_le _, Nat.zero_le _⟩ (Nat.le_of_ble_eq_true rfl) ?_
  refine wa_aload_n C 0 50 dX6_read_49 rfl rfl ?_
  obtain ⟨q10, hq10, hf⟩ := bind_ex hf
  refine we_callVv (ws' := [wRd dT a (a_v 0) (a_f 0) (a_p 0) (a_k 0) b0 q10, wV dT a_v q3, wF dT a_f y5, wR dT a_p q6, wR dT a_k q8, [(b0, .inl (dT 2, n0, .inl u0))]]) (As := []) C E 53 dX6_read_50 rfl kv_X6_72 (c_X6_next hq10) ⟨rfl, rfl⟩ ⟨Nat.le_of_ble_eq_true rfl, Nat.le_of_ble_eq_true rfl⟩ (rv_obj (ci := 6) C 0 0 rfl rfl rfl) [0, 5] [1, 2, 3, 4] [4, 0, 1, 2, 3, 5] rfl rfl rfl rfl (by decide) rfl rfl rfl rfl ⟨Nat.zero_le _, Nat.zero_le _⟩ (Nat.le_of_ble_eq_true rfl) ?_
  refine wa_iconst (v := 0) C 54 dX6_read_53 rfl rfl ?_
  refine wa_istore_n (lv' := [(0, .ref (a 0)), (1, .ref b0), (2, .int p1), (3, .int (0 : Int32))]) C [1, 2, 3, 0] 55 dX6_read_54 rfl (Nat.le_of_ble_eq_true rfl) rfl ?_
  refine wa_iconst (v := 0) C 56 dX6_read_55 rfl rfl ?_
  refine wa_istore (lv' := [(0, .ref (a 0)), (1, .ref b0), (2, .int p1), (3, .int (0 : Int32)), (4, .int (0 : Int32))]) C [1, 2, 3, 4, 0] 58 dX6_read_56 rfl (Nat.le_of_ble_eq_true rfl) rfl ?_
  refine wa_lv (lv' := [(0, .ref (a 0)), (3, .int (0 : Int32)), (4, .int (0 : Int32))]) [0, 3, 4] rfl ?_
  exact w_X6_read_L58 C E FUEL (0 : Int32) (0 : Int32) q10 q3 y5 q6 q8 hf
