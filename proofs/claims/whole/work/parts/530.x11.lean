def wH (dT : Nat → ClassId) (a : Nat → Nat) (h_tape h_reader h_friends h_dusk h_now h_coming h_acts h_seen h_pairs h_trials h_imageNow h_imageActs h_imageSeen : Nat) (v : Ob) : va_W := [(a 0, .inr (11, [.ref h_tape, .int (v.1 1), .int (v.1 2), .ref (a 1), .ref h_reader, .ref h_friends, .ref h_dusk, .ref h_now, .ref h_coming, .ref h_acts, .ref h_seen, .ref h_pairs, .ref h_trials, .int (v.1 13), .ref h_imageNow, .ref h_imageActs, .ref h_imageSeen])), (a 1, .inl (dT 0, 3, .inl (v.2 1)))]
def f_X11_needPerson_J15 (z0 : Ob) (z1 : FS) : Option (Unit) := none
def f_X11_needPerson (v : Ob) (v_fam : FS) (p0 : Int32) : Option (Unit) := (if p0 < 0 then f_X11_needPerson_J15 v v_fam else grd (decide (0 < v_fam.1)) ((if p0 < ((v_fam.2.2 0).1 0) then some () else f_X11_needPerson_J15 v v_fam)))
set_option maxRecDepth 20000 in
theorem w_X11_needPerson_J15 {p : Program} {l : Launch} {e : Env} {s : State} {m : MethodId} {args : Array Value} {below : List Frame} {meth : Method} {c : Code} {D : va_G} {A : Nat → Prop} {dT : Nat → ClassId} {a : Nat → Nat} {a_fam : Nat → Nat → Nat} {h_tape : Nat} {h_reader : Nat} {h_friends : Nat} {h_dusk : Nat} {h_coming : Nat} {h_acts : Nat} {h_seen : Nat} {h_pairs : Nat} {h_trials : Nat} {h_imageNow : Nat} {h_imageActs : Nat} {h_imageSeen : Nat} {res : Unit} {z0 : Ob} {z1 : FS} (C : Cx p s m args meth c cX11_needPerson 2 RX11 none D A dT) : f_X11_needPerson_J15 z0 z1 = some res → WA p l e ({ frames := 3, cells := 0, slots := 0, locals := 60 } : Room) s m args below meth c (MQ below (QV D dT A ([wH dT a h_tape h_reader h_friends h_dusk (a_fam 0 0) h_coming h_acts h_seen h_pairs h_trials h_imageNow h_imageActs h_imageSeen z0, wRw dT z1.1 a_fam z1.2.2])) args s 0 0 A) D A 0 0 2 15 ([wH dT a h_tape h_reader h_friends h_dusk (a_fam 0 0) h_coming h_acts h_seen h_pairs h_trials h_imageNow h_imageActs h_imageSeen z0, wRw dT z1.1 a_fam z1.2.2]) [] [] := by
  intro  hf
  unfold f_X11_needPerson_J15 at hf
  cases hf
set_option maxRecDepth 20000 in
theorem c_X11_needPerson {l : Launch} {D : va_G} {dT : Nat → ClassId} {a : Nat → Nat} {a_fam : Nat → Nat → Nat} {h_tape : Nat} {h_reader : Nat} {h_friends : Nat} {h_dusk : Nat} {h_coming : Nat} {h_acts : Nat} {h_seen : Nat} {h_pairs : Nat} {h_trials : Nat} {h_imageNow : Nat} {h_imageActs : Nat} {h_imageSeen : Nat} {v : Ob} {v_fam : FS} {p0 : Int32} {res : Unit} (hf : f_X11_needPerson v v_fam p0 = some res) : CTv l yX11_needPerson cX11_needPerson 2 none ({ frames := 3, cells := 0, slots := 0, locals := 60 } : Room) D dT [.ref (a 0), .int p0] ([wH dT a h_tape h_reader h_friends h_dusk (a_fam 0 0) h_coming h_acts h_seen h_pairs h_trials h_imageNow h_imageActs h_imageSeen v, wRw dT v_fam.1 a_fam v_fam.2.2]) ([wH dT a h_tape h_reader h_friends h_dusk (a_fam 0 0) h_coming h_acts h_seen h_pairs h_trials h_imageNow h_imageActs h_imageSeen v, wRw dT v_fam.1 a_fam v_fam.2.2]) := by
  refine CTv.of (by decide) (Nat.le_of_ble_eq_true rfl) rfl ?_
  intro p e s m args below meth c A C
  unfold f_X11_needPerson at hf
  refine wa_iload_n C 1 1 dX11_needPerson_0 rfl rfl ?_
  refine wa_if_lt C 15 4 dX11_needPerson_1 rfl rfl (fun c1 => ?_) (fun c1 => ?_)
  · replace hf := ite_t hf c1
    refine wa_lv (lv' := []) [] rfl ?_
    exact w_X11_needPerson_J15 C hf
  · replace hf := ite_f hf c1
    refine wa_iload_n C 1 5 dX11_needPerson_4 rfl rfl ?_
    refine wa_aload_n C 0 6 dX11_needPerson_5 rfl rfl ?_
    refine wa_get C 9 0 0 7 dX11_needPerson_6 rfl iX11 q364 rfl (Nat.le_of_ble_eq_true rfl) rfl rfl rfl ?_
    obtain ⟨g2, hf⟩ := grd_ex hf
    refine wa_openF 1 0 (of_decide_eq_true g2) List.not_mem_nil rfl ?_
    refine wa_get C 12 2 0 0 dX11_needPerson_9 rfl iX10 q53 rfl (Nat.le_of_ble_eq_true rfl) rfl rfl rfl ?_
    refine wa_closeR (ws := [wH dT a h_tape h_reader h_friends h_dusk (a_fam 0 0) h_coming h_acts h_seen h_pairs h_trials h_imageNow h_imageActs h_imageSeen v, wRm dT v_fam.1 [0] a_fam v_fam.2.2]) (ws' := [wH dT a h_tape h_reader h_friends h_dusk (a_fam 0 0) h_coming h_acts h_seen h_pairs h_trials h_imageNow h_imageActs h_imageSeen v, wRw dT v_fam.1 a_fam v_fam.2.2]) 1 0 (of_decide_eq_true g2) List.not_mem_nil rfl rfl ?_
    refine wa_icmp_lt C 26 15 dX11_needPerson_12 rfl rfl (fun c3 => ?_) (fun c3 => ?_)
    · replace hf := ite_t hf c3
      cases hf
      exact wa_vret C dX11_needPerson_26 rfl
    · replace hf := ite_f hf c3
      refine wa_lv (lv' := []) [] rfl ?_
      exact w_X11_needPerson_J15 C hf
def f_X11_needHouse_J15 (z0 : Ob) (z1 : FS) : Option (Unit) := none
def f_X11_needHouse (v : Ob) (v_fam : FS) (p0 : Int32) : Option (Unit) := (if p0 < 0 then f_X11_needHouse_J15 v v_fam else grd (decide (0 < v_fam.1)) ((if p0 < ((v_fam.2.2 0).1 1) then some () else f_X11_needHouse_J15 v v_fam)))
set_option maxRecDepth 20000 in
theorem w_X11_needHouse_J15 {p : Program} {l : Launch} {e : Env} {s : State} {m : MethodId} {args : Array Value} {below : List Frame} {meth : Method} {c : Code} {D : va_G} {A : Nat → Prop} {dT : Nat → ClassId} {a : Nat → Nat} {a_fam : Nat → Nat → Nat} {h_tape : Nat} {h_reader : Nat} {h_friends : Nat} {h_dusk : Nat} {h_coming : Nat} {h_acts : Nat} {h_seen : Nat} {h_pairs : Nat} {h_trials : Nat} {h_imageNow : Nat} {h_imageActs : Nat} {h_imageSeen : Nat} {res : Unit} {z0 : Ob} {z1 : FS} (C : Cx p s m args meth c cX11_needHouse 2 RX11 none D A dT) : f_X11_needHouse_J15 z0 z1 = some res → WA p l e ({ frames := 3, cells := 0, slots := 0, locals := 60 } : Room) s m args below meth c (MQ below (QV D dT A ([wH dT a h_tape h_reader h_friends h_dusk (a_fam 0 0) h_coming h_acts h_seen h_pairs h_trials h_imageNow h_imageActs h_imageSeen z0, wRw dT z1.1 a_fam z1.2.2])) args s 0 0 A) D A 0 0 2 15 ([wH dT a h_tape h_reader h_friends h_dusk (a_fam 0 0) h_coming h_acts h_seen h_pairs h_trials h_imageNow h_imageActs h_imageSeen z0, wRw dT z1.1 a_fam z1.2.2]) [] [] := by
  intro  hf
  unfold f_X11_needHouse_J15 at hf
  cases hf
set_option maxRecDepth 20000 in
theorem c_X11_needHouse {l : Launch} {D : va_G} {dT : Nat → ClassId} {a : Nat → Nat} {a_fam : Nat → Nat → Nat} {h_tape : Nat} {h_reader : Nat} {h_friends : Nat} {h_dusk : Nat} {h_coming : Nat} {h_acts : Nat} {h_seen : Nat} {h_pairs : Nat} {h_trials : Nat} {h_imageNow : Nat} {h_imageActs : Nat} {h_imageSeen : Nat} {v : Ob} {v_fam : FS} {p0 : Int32} {res : Unit} (hf : f_X11_needHouse v v_fam p0 = some res) : CTv l yX11_needHouse cX11_needHouse 2 none ({ frames := 3, cells := 0, slots := 0, locals := 60 } : Room) D dT [.ref (a 0), .int p0] ([wH dT a h_tape h_reader h_friends h_dusk (a_fam 0 0) h_coming h_acts h_seen h_pairs h_trials h_imageNow h_imageActs h_imageSeen v, wRw dT v_fam.1 a_fam v_fam.2.2]) ([wH dT a h_tape h_reader h_friends h_dusk (a_fam 0 0) h_coming h_acts h_seen h_pairs h_trials h_imageNow h_imageActs h_imageSeen v, wRw dT v_fam.1 a_fam v_fam.2.2]) := by
  refine CTv.of (by decide) (Nat.le_of_ble_eq_true rfl) rfl ?_
  intro p e s m args below meth c A C
  unfold f_X11_needHouse at hf
  refine wa_iload_n C 1 1 dX11_needHouse_0 rfl rfl ?_
  refine wa_if_lt C 15 4 dX11_needHouse_1 rfl rfl (fun c1 => ?_) (fun c1 => ?_)
  · replace hf := ite_t hf c1
    refine wa_lv (lv' := []) [] rfl ?_
    exact w_X11_needHouse_J15 C hf
  · replace hf := ite_f hf c1
    refine wa_iload_n C 1 5 dX11_needHouse_4 rfl rfl ?_
    refine wa_aload_n C 0 6 dX11_needHouse_5 rfl rfl ?_
    refine wa_get C 9 0 0 7 dX11_needHouse_6 rfl iX11 q364 rfl (Nat.le_of_ble_eq_true rfl) rfl rfl rfl ?_
    obtain ⟨g2, hf⟩ := grd_ex hf
    refine wa_openF 1 0 (of_decide_eq_true g2) List.not_mem_nil rfl ?_
    refine wa_get C 12 2 0 1 dX11_needHouse_9 rfl iX10 q60 rfl (Nat.le_of_ble_eq_true rfl) rfl rfl rfl ?_
    refine wa_closeR (ws := [wH dT a h_tape h_reader h_friends h_dusk (a_fam 0 0) h_coming h_acts h_seen h_pairs h_trials h_imageNow h_imageActs h_imageSeen v, wRm dT v_fam.1 [0] a_fam v_fam.2.2]) (ws' := [wH dT a h_tape h_reader h_friends h_dusk (a_fam 0 0) h_coming h_acts h_seen h_pairs h_trials h_imageNow h_imageActs h_imageSeen v, wRw dT v_fam.1 a_fam v_fam.2.2]) 1 0 (of_decide_eq_true g2) List.not_mem_nil rfl rfl ?_
    refine wa_icmp_lt C 26 15 dX11_needHouse_12 rfl rfl (fun c3 => ?_) (fun c3 => ?_)
    · replace hf := ite_t hf c3
      cases hf
      exact wa_vret C dX11_needHouse_26 rfl
    · replace hf := ite_f hf c3
      refine wa_lv (lv' := []) [] rfl ?_
      exact w_X11_needHouse_J15 C hf
def f_X11_needWhat_J9 : Option (Unit) := none
def f_X11_needWhat (p0 : Int32) (p1 : Int32) : Option (Unit) := (if p0 < 0 then f_X11_needWhat_J9 else (if p0 ≤ p1 then some () else f_X11_needWhat_J9))
set_option maxRecDepth 20000 in
theorem w_X11_needWhat_J9 {p : Program} {l : Launch} {e : Env} {s : State} {m : MethodId} {args : Array Value} {below : List Frame} {meth : Method} {c : Code} {D : va_G} {A : Nat → Prop} {dT : Nat → ClassId} {res : Unit} (C : Cx p s m args meth c cX11_needWhat 2 RX11 none D A dT) : f_X11_needWhat_J9 = some res → WA p l e ({ frames := 3, cells := 0, slots := 0, locals := 60 } : Room) s m args below meth c (MQ below (QV D dT A ([])) args s 0 0 A) D A 0 0 2 9 ([]) [] [] := by
  intro  hf
  unfold f_X11_needWhat_J9 at hf
  cases hf
set_option maxRecDepth 20000 in
theorem c_X11_needWhat {l : Launch} {D : va_G} {dT : Nat → ClassId} {p0 : Int32} {p1 : Int32} {res : Unit} (hf : f_X11_needWhat p0 p1 = some res) : CTv l yX11_needWhat cX11_needWhat 2 none ({ frames := 3, cells := 0, slots := 0, locals := 60 } : Room) D dT [.int p0, .int p1] ([]) ([]) := by
  refine CTv.of (by decide) (Nat.le_of_ble_eq_true rfl) rfl ?_
  intro p e s m args below meth c A C
  unfold f_X11_needWhat at hf
  refine wa_iload_n C 0 1 dX11_needWhat_0 rfl rfl ?_
  refine wa_if_lt C 9 4 dX11_needWhat_1 rfl rfl (fun c1 => ?_) (fun c1 => ?_)
  · replace hf := ite_t hf c1
    refine wa_lv (lv' := []) [] rfl ?_
    exact w_X11_needWhat_J9 C hf
  · replace hf := ite_f hf c1
    refine wa_iload_n C 0 5 dX11_needWhat_4 rfl rfl ?_
    refine wa_iload_n C 1 6 dX11_needWhat_5 rfl rfl ?_
    refine wa_icmp_le C 20 9 dX11_needWhat_6 rfl rfl (fun c2 => ?_) (fun c2 => ?_)
    · replace hf := ite_t hf c2
      cases hf
      exact wa_vret C dX11_needWhat_20 rfl
    · replace hf := ite_f hf c2
      refine wa_lv (lv' := []) [] rfl ?_
      exact w_X11_needWhat_J9 C hf
def f_X11_needWithin_J10 : Option (Unit) := none
def f_X11_needWithin (p0 : Int32) (p1 : Int32) (p2 : Int32) : Option (Unit) := (if p0 < p1 then f_X11_needWithin_J10 else (if p0 ≤ p2 then some () else f_X11_needWithin_J10))
set_option maxRecDepth 20000 in
theorem w_X11_needWithin_J10 {p : Program} {l : Launch} {e : Env} {s : State} {m : MethodId} {args : Array Value} {below : List Frame} {meth : Method} {c : Code} {D : va_G} {A : Nat → Prop} {dT : Nat → ClassId} {res : Unit} (C : Cx p s m args meth c cX11_needWithin 3 RX11 none D A dT) : f_X11_needWithin_J10 = some res → WA p l e ({ frames := 3, cells := 0, slots := 0, locals := 60 } : Room) s m args below meth c (MQ below (QV D dT A ([])) args s 0 0 A) D A 0 0 3 10 ([]) [] [] := by
  intro  hf
  unfold f_X11_needWithin_J10 at hf
  cases hf
set_option maxRecDepth 20000 in
theorem c_X11_needWithin {l : Launch} {D : va_G} {dT : Nat → ClassId} {p0 : Int32} {p1 : Int32} {p2 : Int32} {res : Unit} (hf : f_X11_needWithin p0 p1 p2 = some res) : CTv l yX11_needWithin cX11_needWithin 3 none ({ frames := 3, cells := 0, slots := 0, locals := 60 } : Room) D dT [.int p0, .int p1, .int p2] ([]) ([]) := by
  refine CTv.of (by decide) (Nat.le_of_ble_eq_true rfl) rfl ?_
  intro p e s m args below meth c A C
  unfold f_X11_needWithin at hf
  refine wa_iload_n C 0 1 dX11_needWithin_0 rfl rfl ?_
  refine wa_iload_n C 1 2 dX11_needWithin_1 rfl rfl ?_
  refine wa_icmp_lt C 10 5 dX11_needWithin_2 rfl rfl (fun c1 => ?_) (fun c1 => ?_)
  · replace hf := ite_t hf c1
    refine wa_lv (lv' := []) [] rfl ?_
    exact w_X11_needWithin_J10 C hf
  · replace hf := ite_f hf c1
    refine wa_iload_n C 0 6 dX11_needWithin_5 rfl rfl ?_
    refine wa_iload_n C 2 7 dX11_needWithin_6 rfl rfl ?_
    refine wa_icmp_le C 21 10 dX11_needWithin_7 rfl rfl (fun c2 => ?_) (fun c2 => ?_)
    · replace hf := ite_t hf c2
      cases hf
      exact wa_vret C dX11_needWithin_21 rfl
    · replace hf := ite_f hf c2
      refine wa_lv (lv' := []) [] rfl ?_
      exact w_X11_needWithin_J10 C hf
def f_X11_refuse (v : Ob) (p0 : Int32) : Option (Int32 × Ob) := grd (vi p0 3) (grd (vi p0 3) (bnd (v.1, uA v.2 1 (p0).toNatClampNeg ((v.2 1 (p0).toNatClampNeg) + (1 : Int32))) (fun y3 => some ((-1 : Int32), y3))))
set_option maxRecDepth 20000 in
theorem c_X11_refuse {l : Launch} {D : va_G} {dT : Nat → ClassId} {a : Nat → Nat} {h_tape : Nat} {h_reader : Nat} {h_friends : Nat} {h_dusk : Nat} {h_now : Nat} {h_coming : Nat} {h_acts : Nat} {h_seen : Nat} {h_pairs : Nat} {h_trials : Nat} {h_imageNow : Nat} {h_imageActs : Nat} {h_imageSeen : Nat} {v : Ob} {p0 : Int32} {res : Int32 × Ob} (hf : f_X11_refuse v p0 = some res) : CTi l yX11_refuse cX11_refuse 2 (some .int) ({ frames := 0, cells := 0, slots := 0, locals := 0 } : Room) D dT [.ref (a 0), .int p0] ([wH dT a h_tape h_reader h_friends h_dusk h_now h_coming h_acts h_seen h_pairs h_trials h_imageNow h_imageActs h_imageSeen v]) ([wH dT a h_tape h_reader h_friends h_dusk h_now h_coming h_acts h_seen h_pairs h_trials h_imageNow h_imageActs h_imageSeen res.2]) res.1 := by
  refine CTi.of (by decide) (Nat.le_of_ble_eq_true rfl) rfl ?_
  intro p e s m args below meth c A C
  unfold f_X11_refuse at hf
  refine wa_aload_n C 0 1 dX11_refuse_0 rfl rfl ?_
  refine wa_get C 4 0 0 3 dX11_refuse_1 rfl iX11 q360 rfl (Nat.le_of_ble_eq_true rfl) rfl rfl rfl ?_
  refine wa_iload_n C 1 5 dX11_refuse_4 rfl rfl ?_
  refine wa_dup2 C 6 dX11_refuse_5 rfl rfl rfl ?_
  obtain ⟨g1, hf⟩ := grd_ex hf
  refine wa_iald C 7 0 1 dX11_refuse_6 rfl rfl rfl (vi_in g1) ?_
  refine wa_iconst (v := 1) C 8 dX11_refuse_7 rfl rfl ?_
  refine wa_iadd C 9 dX11_refuse_8 rfl ?_
  obtain ⟨g2, hf⟩ := grd_ex hf
  obtain ⟨y3, ey3, hf⟩ := bnd_ex hf
  refine wa_iast (ws' := [wH dT a h_tape h_reader h_friends h_dusk h_now h_coming h_acts h_seen h_pairs h_trials h_imageNow h_imageActs h_imageSeen y3]) C 10 0 1 dX11_refuse_9 rfl rfl rfl (vi_in g2) (by rw [ey3]; rfl) ?_
  refine wa_iconst (v := (-1)) C 11 dX11_refuse_10 rfl rfl ?_
  cases hf
  exact wa_iret C dX11_refuse_11 rfl rfl
def f_X11_putNumber_L3 (l1 : Int32) : Nat → Int32 → Ob → (Nat → Int32) → Option (Ob × (Nat → Int32))
  | 0, _, _, _ => none
  | n + 1, l2, z0, z1 => (if l2 < 0 then some (z0, z1) else (if (700 : Int32) ≤ (z0.1 1) then some (z0, z1) else grd (vi (z0.1 1) 700) (bnd (upd z1 ((z0.1 1)).toNatClampNeg (vp_nar .byte (l1 >>> (l2 &&& 31)).toInt8.toInt32)) (fun y4 => bnd (upd z0.1 1 ((z0.1 1) + (1 : Int32)), z0.2) (fun y5 => bnd (l2 + (-8)) (fun x6 => f_X11_putNumber_L3 l1 n x6 y5 y4))))))
def f_X11_putNumber (v : Ob) (v_tape : (Nat → Int32)) (p0 : Int32) : Option (Ob × (Nat → Int32)) := f_X11_putNumber_L3 p0 FUEL (24 : Int32) v v_tape
set_option maxRecDepth 20000 in
theorem w_X11_putNumber_L3 {p : Program} {l : Launch} {e : Env} {s : State} {m : MethodId} {args : Array Value} {below : List Frame} {meth : Method} {c : Code} {D : va_G} {A : Nat → Prop} {dT : Nat → ClassId} {a : Nat → Nat} {bt : Nat} {h_reader : Nat} {h_friends : Nat} {h_dusk : Nat} {h_now : Nat} {h_coming : Nat} {h_acts : Nat} {h_seen : Nat} {h_pairs : Nat} {h_trials : Nat} {h_imageNow : Nat} {h_imageActs : Nat} {h_imageSeen : Nat} {res : Ob × (Nat → Int32)} {l1 : Int32} (C : Cx p s m args meth c cX11_putNumber 3 RX11 none D A dT) : ∀ (n : Nat) (l2 : Int32) (z0 : Ob) (z1 : (Nat → Int32)), f_X11_putNumber_L3 l1 n l2 z0 z1 = some res → WA p l e ({ frames := 0, cells := 0, slots := 0, locals := 0 } : Room) s m args below meth c (MQ below (QV D dT A ([wH dT a bt h_reader h_friends h_dusk h_now h_coming h_acts h_seen h_pairs h_trials h_imageNow h_imageActs h_imageSeen res.1, [(bt, .inl (dT 2, 700, .inl res.2))]])) args s 0 0 A) D A 0 0 3 3 ([wH dT a bt h_reader h_friends h_dusk h_now h_coming h_acts h_seen h_pairs h_trials h_imageNow h_imageActs h_imageSeen z0, [(bt, .inl (dT 2, 700, .inl z1))]]) [(0, .ref (a 0)), (1, .int l1), (2, .int l2)] [] := by
  intro n
  induction n with
  | zero => intro l2 z0 z1 hf; cases hf
  | succ n ih =>
    intro l2 z0 z1 hf
    unfold f_X11_putNumber_L3 at hf
    refine wa_iload_n C 2 4 dX11_putNumber_3 rfl rfl ?_
    refine wa_if_lt C 46 7 dX11_putNumber_4 rfl rfl (fun c1 => ?_) (fun c1 => ?_)
    · replace hf := ite_t hf c1
      cases hf
      exact wa_vret C dX11_putNumber_46 rfl
    · replace hf := ite_f hf c1
      refine wa_aload_n C 0 8 dX11_putNumber_7 rfl rfl ?_
      refine wa_get C 11 0 0 1 dX11_putNumber_8 rfl iX11 q358 rfl (Nat.le_of_ble_eq_true rfl) rfl rfl rfl ?_
      refine wa_sipush (v := 700) C 14 dX11_putNumber_11 rfl rfl ?_
      refine wa_icmp_ge C 46 17 dX11_putNumber_14 rfl rfl (fun c2 => ?_) (fun c2 => ?_)
      · replace hf := ite_t hf c2
        cases hf
        exact wa_vret C dX11_putNumber_46 rfl
      · replace hf := ite_f hf c2
        refine wa_aload_n C 0 18 dX11_putNumber_17 rfl rfl ?_
        refine wa_get C 21 0 0 0 dX11_putNumber_18 rfl iX11 q357 rfl (Nat.le_of_ble_eq_true rfl) rfl rfl rfl ?_
        refine wa_aload_n C 0 22 dX11_putNumber_21 rfl rfl ?_
        refine wa_get C 25 0 0 1 dX11_putNumber_22 rfl iX11 q358 rfl (Nat.le_of_ble_eq_true rfl) rfl rfl rfl ?_
        refine wa_iload_n C 1 26 dX11_putNumber_25 rfl rfl ?_
        refine wa_iload_n C 2 27 dX11_putNumber_26 rfl rfl ?_
        refine wa_ishr C 28 dX11_putNumber_27 rfl ?_
        refine wa_i2b C 29 dX11_putNumber_28 rfl ?_
        obtain ⟨g3, hf⟩ := grd_ex hf
        obtain ⟨y4, ey4, hf⟩ := bnd_ex hf
        refine wa_bast (ws' := [wH dT a bt h_reader h_friends h_dusk h_now h_coming h_acts h_seen h_pairs h_trials h_imageNow h_imageActs h_imageSeen z0, [(bt, .inl (dT 2, 700, .inl y4))]]) C 30 1 0 dX11_putNumber_29 rfl rfl rfl (vi_in g3) (by rw [ey4]; rfl) ?_
        refine wa_aload_n C 0 31 dX11_putNumber_30 rfl rfl ?_
        refine wa_dup C 32 dX11_putNumber_31 rfl rfl ?_
        refine wa_get C 35 0 0 1 dX11_putNumber_32 rfl iX11 q358 rfl (Nat.le_of_ble_eq_true rfl) rfl rfl rfl ?_
        refine wa_iconst (v := 1) C 36 dX11_putNumber_35 rfl rfl ?_
        refine wa_iadd C 37 dX11_putNumber_36 rfl ?_
        obtain ⟨y5, ey5, hf⟩ := bnd_ex hf
        refine wa_put (ws' := [wH dT a bt h_reader h_friends h_dusk h_now h_coming h_acts h_seen h_pairs h_trials h_imageNow h_imageActs h_imageSeen y5, [(bt, .inl (dT 2, 700, .inl y4))]]) C 40 0 0 1 tyX11 dX11_putNumber_37 rfl iX11 tyX11_ok nmX11 q358 rfl (Nat.le_of_ble_eq_true rfl) rfl rfl rfl rfl rfl (Nat.le_of_ble_eq_true rfl) (by rw [ey5]; rfl) ?_
        obtain ⟨x6, ex6, hf⟩ := bnd_ex hf
        refine wa_iinc (v := x6) (lv' := [(0, .ref (a 0)), (1, .int l1), (2, .int x6)]) C 2 [1, 2, 0] 43 dX11_putNumber_40 rfl rfl (by rw [ex6]; rfl) (Nat.le_of_ble_eq_true rfl) rfl ?_
        refine wa_goto C 3 dX11_putNumber_43 rfl ?_
        exact ih x6 y5 y4 hf
set_option maxRecDepth 20000 in
theorem c_X11_putNumber {l : Launch} {D : va_G} {dT : Nat → ClassId} {a : Nat → Nat} {bt : Nat} {h_reader : Nat} {h_friends : Nat} {h_dusk : Nat} {h_now : Nat} {h_coming : Nat} {h_acts : Nat} {h_seen : Nat} {h_pairs : Nat} {h_trials : Nat} {h_imageNow : Nat} {h_imageActs : Nat} {h_imageSeen : Nat} {v : Ob} {v_tape : (Nat → Int32)} {p0 : Int32} {res : Ob × (Nat → Int32)} (hf : f_X11_putNumber v v_tape p0 = some res) : CTv l yX11_putNumber cX11_putNumber 3 none ({ frames := 0, cells := 0, slots := 0, locals := 0 } : Room) D dT [.ref (a 0), .int p0] ([wH dT a bt h_reader h_friends h_dusk h_now h_coming h_acts h_seen h_pairs h_trials h_imageNow h_imageActs h_imageSeen v, [(bt, .inl (dT 2, 700, .inl v_tape))]]) ([wH dT a bt h_reader h_friends h_dusk h_now h_coming h_acts h_seen h_pairs h_trials h_imageNow h_imageActs h_imageSeen res.1, [(bt, .inl (dT 2, 700, .inl res.2))]]) := by
  refine CTv.of (by decide) (Nat.le_of_ble_eq_true rfl) rfl ?_
  intro p e s m args below meth c A C
  unfold f_X11_putNumber at hf
  refine wa_bipush (v := 24) C 2 dX11_putNumber_0 rfl rfl ?_
  refine wa_istore_n (lv' := [(0, .ref (a 0)), (1, .int p0), (2, .int (24 : Int32))]) C [1, 2, 0] 3 dX11_putNumber_2 rfl (Nat.le_of_ble_eq_true rfl) rfl ?_
  exact w_X11_putNumber_L3 C FUEL (24 : Int32) v v_tape hf
theorem kv_X11_104 : KV RX11 104 yX11_putNumber cX11_putNumber 3 none 1 := KV.mk q413 q415 qs0 q1 q416 ⟨by decide, by decide, by decide +kernel⟩
def f_X11_feed (v : Ob) (v_tape : (Nat → Int32)) (p0 : Int32) (p1 : Int32) (p2 : Int32) (p3 : Int32) (p4 : Int32) : Option (Int32 × Ob × (Nat → Int32)) := (if (v.1 1) ≤ (680 : Int32) then (f_X11_putNumber v v_tape p0).bind (fun q2 => (f_X11_putNumber q2.1 q2.2 p1).bind (fun q4 => (f_X11_putNumber q4.1 q4.2 p2).bind (fun q6 => (f_X11_putNumber q6.1 q6.2 p3).bind (fun q8 => (f_X11_putNumber q8.1 q8.2 p4).bind (fun q10 => some ((q10.1.1 1), q10.1, q10.2)))))) else some ((-1 : Int32), v, v_tape))
set_option maxRecDepth 20000 in
theorem c_X11_feed {l : Launch} {D : va_G} {dT : Nat → ClassId} {a : Nat → Nat} {bt : Nat} {h_reader : Nat} {h_friends : Nat} {h_dusk : Nat} {h_now : Nat} {h_coming : Nat} {h_acts : Nat} {h_seen : Nat} {h_pairs : Nat} {h_trials : Nat} {h_imageNow : Nat} {h_imageActs : Nat} {h_imageSeen : Nat} {v : Ob} {v_tape : (Nat → Int32)} {p0 : Int32} {p1 : Int32} {p2 : Int32} {p3 : Int32} {p4 : Int32} {res : Int32 × Ob × (Nat → Int32)} (hf : f_X11_feed v v_tape p0 p1 p2 p3 p4 = some res) : CTi l yX11_feed cX11_feed 6 (some .int) ({ frames := 1, cells := 0, slots := 0, locals := 22 } : Room) D dT [.ref (a 0), .int p0, .int p1, .int p2, .int p3, .int p4] ([wH dT a bt h_reader h_friends h_dusk h_now h_coming h_acts h_seen h_pairs h_trials h_imageNow h_imageActs h_imageSeen v, [(bt, .inl (dT 2, 700, .inl v_tape))]]) ([wH dT a bt h_reader h_friends h_dusk h_now h_coming h_acts h_seen h_pairs h_trials h_imageNow h_imageActs h_imageSeen res.2.1, [(bt, .inl (dT 2, 700, .inl res.2.2))]]) res.1 := by
  refine CTi.of (by decide) (Nat.le_of_ble_eq_true rfl) rfl ?_
  intro p e s m args below meth c A C
  unfold f_X11_feed at hf
  refine wa_aload_n C 0 1 dX11_feed_0 rfl rfl ?_
  refine wa_get C 4 0 0 1 dX11_feed_1 rfl iX11 q358 rfl (Nat.le_of_ble_eq_true rfl) rfl rfl rfl ?_
  refine wa_sipush (v := 680) C 7 dX11_feed_4 rfl rfl ?_
  refine wa_icmp_le C 12 10 dX11_feed_7 rfl rfl (fun c1 => ?_) (fun c1 => ?_)
  · replace hf := ite_t hf c1
    refine wa_aload_n C 0 13 dX11_feed_12 rfl rfl ?_
    refine wa_iload_n C 1 14 dX11_feed_13 rfl rfl ?_
    obtain ⟨q2, hq2, hf⟩ := bind_ex hf
    refine wa_callVAv (b1 := 0) (q1 := 0) (ci := 11) (As := [.int p0]) C 17 dX11_feed_14 rfl kv_X11_104 (c_X11_putNumber hq2) ⟨rfl, rfl⟩ ⟨Nat.le_of_ble_eq_true rfl, Nat.le_of_ble_eq_true rfl⟩ rfl rfl rfl rfl rfl ⟨Nat.zero_le _, Nat.zero_le _⟩ (Nat.le_of_ble_eq_true rfl) ?_
    refine wa_aload_n C 0 18 dX11_feed_17 rfl rfl ?_
    refine wa_iload_n C 2 19 dX11_feed_18 rfl rfl ?_
    obtain ⟨q4, hq4, hf⟩ := bind_ex hf
    refine wa_callVAv (b1 := 0) (q1 := 0) (ci := 11) (As := [.int p1]) C 22 dX11_feed_19 rfl kv_X11_104 (c_X11_putNumber hq4) ⟨rfl, rfl⟩ ⟨Nat.le_of_ble_eq_true rfl, Nat.le_of_ble_eq_true rfl⟩ rfl rfl rfl rfl rfl ⟨Nat.zero_le _, Nat.zero_le _⟩ (Nat.le_of_ble_eq_true rfl) ?_
    refine wa_aload_n C 0 23 dX11_feed_22 rfl rfl ?_
    refine wa_iload_n C 3 24 dX11_feed_23 rfl rfl ?_
    obtain ⟨q6, hq6, hf⟩ := bind_ex hf
    refine wa_callVAv (b1 := 0) (q1 := 0) (ci := 11) (As := [.int p2]) C 27 dX11_feed_24 rfl kv_X11_104 (c_X11_putNumber hq6) ⟨rfl, rfl⟩ ⟨Nat.le_of_ble_eq_true rfl, Nat.le_of_ble_eq_true rfl⟩ rfl rfl rfl rfl rfl ⟨Nat.zero_le _, Nat.zero_le _⟩ (Nat.le_of_ble_eq_true rfl) ?_
    refine wa_aload_n C 0 28 dX11_feed_27 rfl rfl ?_
    refine wa_iload C 4 30 dX11_feed_28 rfl rfl ?_
    obtain ⟨q8, hq8, hf⟩ := bind_ex hf
    refine wa_callVAv (b1 := 0) (q1 := 0) (ci := 11) (As := [.int p3]) C 33 dX11_feed_30 rfl kv_X11_104 (c_X11_putNumber hq8) ⟨rfl, rfl⟩ ⟨Nat.le_of_ble_eq_true rfl, Nat.le_of_ble_eq_true rfl⟩ rfl rfl rfl rfl rfl ⟨Nat.zero_le _, Nat.zero_le _⟩ (Nat.le_of_ble_eq_true rfl) ?_
    refine wa_aload_n C 0 34 dX11_feed_33 rfl rfl ?_
    refine wa_iload C 5 36 dX11_feed_34 rfl rfl ?_
    obtain ⟨q10, hq10, hf⟩ := bind_ex hf
    refine wa_callVAv (b1 := 0) (q1 := 0) (ci := 11) (As := [.int p4]) C 39 dX11_feed_36 rfl kv_X11_104 (c_X11_putNumber hq10) ⟨rfl, rfl⟩ ⟨Nat.le_of_ble_eq_true rfl, Nat.le_of_ble_eq_true rfl⟩ rfl rfl rfl rfl rfl ⟨Nat.zero_le _, Nat.zero_le _⟩ (Nat.le_of_ble_eq_true rfl) ?_
    refine wa_aload_n C 0 40 dX11_feed_39 rfl rfl ?_
    refine wa_get C 43 0 0 1 dX11_feed_40 rfl iX11 q358 rfl (Nat.le_of_ble_eq_true rfl) rfl rfl rfl ?_
    cases hf
    exact wa_iret C dX11_feed_43 rfl rfl
  · replace hf := ite_f hf c1
    refine wa_iconst (v := (-1)) C 11 dX11_feed_10 rfl rfl ?_
    cases hf
    exact wa_iret C dX11_feed_11 rfl rfl
theorem kv_X11_115 : KV RX11 115 yX6_read cX6_read 5 (some .int) 2 := KV.mk q685 q686 q687 q2 q688 ⟨by decide, by decide, by decide +kernel⟩
theorem kv_X11_119 : KV RX11 119 yX6_place cX6_place 1 (some .int) 0 := KV.mk q918 q919 q920 q2 q921 ⟨by decide, by decide, by decide +kernel⟩
theorem kv_X11_126 : KV RX11 126 yX10_copyFrom cX10_copyFrom 2 none 1 := KV.mk q513 q443 q444 q3 q445 ⟨by decide, by decide, by decide +kernel⟩
theorem kv_X11_131 : KV RX11 131 yX3_copyFrom cX3_copyFrom 2 none 1 := KV.mk q922 q923 q924 q4 q925 ⟨by decide, by decide, by decide +kernel⟩
theorem kv_X11_139 : KV RX11 139 yX7_copyFrom cX7_copyFrom 2 none 1 := KV.mk q927 q928 q929 q5 q930 ⟨by decide, by decide, by decide +kernel⟩
theorem kv_X11_148 : KV RX11 148 yX1_changed cX1_changed 1 none 0 := KV.mk q514 q515 q516 q7 q517 ⟨by decide, by decide, by decide +kernel⟩
def f_X11_village_J12 (z1 : (Nat → Int32)) (z9 : Ob) (z12 : Ob) (z15 : FS) (z0 : Ob) (z2 : Ob) (z3 : Ob) (z4 : Ob) (z5 : Ob) (z6 : Ob) (z7 : Ob) (z8 : CS) (z10 : Ob) (z11 : Ob) (z13 : FS) (z14 : Ob) (z16 : Ob) : Option (Int32 × Ob × Ob × Ob × Ob × Ob × Ob × Ob × CS × Ob × Ob × FS × Ob × Ob) := none
def f_X11_village (v : Ob) (v_tape : (Nat → Int32)) (v_reader : Ob) (v_rvillage : Ob) (v_rfriends : Ob) (v_rpicks : Ob) (v_rkeeps : Ob) (v_friends : Ob) (v_coming : CS) (v_dusk : Ob) (v_dpicks : Ob) (v_dkeeps : Ob) (v_known : Ob) (v_fam : FS) (v_acts : Ob) (v_actsfam : FS) (v_seen : Ob) (p0 : Int32) : Option (Int32 × Ob × Ob × Ob × Ob × Ob × Ob × Ob × CS × Ob × Ob × FS × Ob × Ob) := (if p0 < 0 then f_X11_village_J12 v_tape v_dusk v_known v_actsfam v v_reader v_rvillage v_rfriends v_rpicks v_rkeeps v_friends v_coming v_dpicks v_dkeeps v_fam v_acts v_seen else (if p0 ≤ (v.1 1) then (f_X6_read v_reader v_rvillage v_rfriends v_rpicks v_rkeeps v_tape 700 p0).bind (fun q3 => bnd (upd v.1 1 (0 : Int32), v.2) (fun y5 => (if q3.1 = 0 then bnd (upd y5.1 2 (-1 : Int32), y5.2) (fun y7 => grd (decide (0 < v_fam.1)) ((f_X10_copyFrom (v_fam.2.2 0) q3.2.2.1).bind (fun q9 => bnd ((v_fam.1, v_fam.2.1, sV v_fam.2.2 0 q9) : FS) (fun y11 => (f_X3_copyFrom v_friends q3.2.2.2.1).bind (fun q12 => (f_X7_copyFrom v_dpicks q3.2.2.2.2.1).bind (fun q14 => (f_X7_copyFrom v_dkeeps q3.2.2.2.2.2).bind (fun q16 => (f_X1_changed v_coming v_dusk q14 q16 v_known y11).bind (fun q18 => bnd (upd v_acts.1 0 (0 : Int32), v_acts.2) (fun y20 => bnd (upd v_seen.1 0 (0 : Int32), v_seen.2) (fun y21 => bnd (upd y7.1 13 (0 : Int32), y7.2) (fun y22 => some ((0 : Int32), y22, q3.2.1, q3.2.2.1, q3.2.2.2.1, q3.2.2.2.2.1, q3.2.2.2.2.2, q12, q18, q14, q16, y11, y20, y21)))))))))))) else (f_X6_place q3.2.1).bind (fun q23 => bnd (upd y5.1 2 q23, y5.2) (fun y25 => grd (vi (0 : Int32) 3) (grd (vi (0 : Int32) 3) (bnd (y25.1, uA y25.2 1 ((0 : Int32)).toNatClampNeg ((y25.2 1 ((0 : Int32)).toNatClampNeg) + (1 : Int32))) (fun y28 => some (q3.1, y28, q3.2.1, q3.2.2.1, q3.2.2.2.1, q3.2.2.2.2.1, q3.2.2.2.2.2, v_friends, v_coming, v_dpicks, v_dkeeps, v_fam, v_acts, v_seen))))))))) else f_X11_village_J12 v_tape v_dusk v_known v_actsfam v v_reader v_rvillage v_rfriends v_rpicks v_rkeeps v_friends v_coming v_dpicks v_dkeeps v_fam v_acts v_seen))
set_option maxRecDepth 20000 in
theorem w_X11_village_J12 {p : Program} {l : Launch} {e : Env} {s : State} {m : MethodId} {args : Array Value} {below : List Frame} {meth : Method} {c : Code} {D : va_G} {A : Nat → Prop} {dT : Nat → ClassId} {a : Nat → Nat} {bt : Nat} {a_reader : Nat → Nat} {a_rvillage : Nat → Nat} {a_rfriends : Nat → Nat} {a_rpicks : Nat → Nat} {a_rkeeps : Nat → Nat} {a_friends : Nat → Nat} {a_coming : Nat → Nat} {a_dusk : Nat → Nat} {a_dpicks : Nat → Nat} {a_dkeeps : Nat → Nat} {a_known : Nat → Nat} {a_fam : Nat → Nat → Nat} {a_acts : Nat → Nat} {a_actsfam : Nat → Nat → Nat} {a_seen : Nat → Nat} {h_pairs : Nat} {h_trials : Nat} {h_imageNow : Nat} {h_imageActs : Nat} {h_imageSeen : Nat} {tx : Nat} {aK aV : Nat → Nat} {res : Int32 × Ob × Ob × Ob × Ob × Ob × Ob × Ob × CS × Ob × Ob × FS × Ob × Ob} {z1 : (Nat → Int32)} {z9 : Ob} {z12 : Ob} {z15 : FS} (C : Cx p s m args meth c cX11_village 3 RX11 (some .int) D A dT) (E : AMB aK aV A s s.heap) : ∀ (z0 : Ob) (z2 : Ob) (z3 : Ob) (z4 : Ob) (z5 : Ob) (z6 : Ob) (z7 : Ob) (z8 : CS) (z10 : Ob) (z11 : Ob) (z13 : FS) (z14 : Ob) (z16 : Ob), f_X11_village_J12 z1 z9 z12 z15 z0 z2 z3 z4 z5 z6 z7 z8 z10 z11 z13 z14 z16 = some res → WA p l e ({ frames := 108, cells := 0, slots := 0, locals := 4891 } : Room) s m args below meth c (MQ below (QI D dT A ([wH dT a bt (a_reader 0) (a_friends 0) (a_dusk 0) (a_fam 0 0) (a_coming 0) (a_acts 0) (a_seen 0) h_pairs h_trials h_imageNow h_imageActs h_imageSeen res.2.1, [(bt, .inl (dT 2, 700, .inl z1))], wRd dT a_reader (a_rvillage 0) (a_rfriends 0) (a_rpicks 0) (a_rkeeps 0) bt res.2.2.1, wV dT a_rvillage res.2.2.2.1, wF dT a_rfriends res.2.2.2.2.1, wR dT a_rpicks res.2.2.2.2.2.1, wR dT a_rkeeps res.2.2.2.2.2.2.1, wF dT a_friends res.2.2.2.2.2.2.2.1, wC dT a_coming (a_dusk 0) (a_fam 0 0) (a_known 0) (pim a_fam res.2.2.2.2.2.2.2.2.2.2.2.1.2.1) res.2.2.2.2.2.2.2.2.1, wD dT a_dusk (a_dpicks 0) (a_dkeeps 0) z9, wR dT a_dpicks res.2.2.2.2.2.2.2.2.2.1, wR dT a_dkeeps res.2.2.2.2.2.2.2.2.2.2.1, wK dT a_known z12, wRw dT res.2.2.2.2.2.2.2.2.2.2.2.1.1 a_fam res.2.2.2.2.2.2.2.2.2.2.2.1.2.2, wA dT a_acts (pim a_actsfam z15.2.1) res.2.2.2.2.2.2.2.2.2.2.2.2.1, wRw dT z15.1 a_actsfam z15.2.2, wS dT a_seen res.2.2.2.2.2.2.2.2.2.2.2.2.2]) res.1) args s 0 0 A) D A 0 0 3 12 ([wH dT a bt (a_reader 0) (a_friends 0) (a_dusk 0) (a_fam 0 0) (a_coming 0) (a_acts 0) (a_seen 0) h_pairs h_trials h_imageNow h_imageActs h_imageSeen z0, [(bt, .inl (dT 2, 700, .inl z1))], wRd dT a_reader (a_rvillage 0) (a_rfriends 0) (a_rpicks 0) (a_rkeeps 0) tx z2, wV dT a_rvillage z3, wF dT a_rfriends z4, wR dT a_rpicks z5, wR dT a_rkeeps z6, wF dT a_friends z7, wC dT a_coming (a_dusk 0) (a_fam 0 0) (a_known 0) (pim a_fam z13.2.1) z8, wD dT a_dusk (a_dpicks 0) (a_dkeeps 0) z9, wR dT a_dpicks z10, wR dT a_dkeeps z11, wK dT a_known z12, wRw dT z13.1 a_fam z13.2.2, wA dT a_acts (pim a_actsfam z15.2.1) z14, wRw dT z15.1 a_actsfam z15.2.2, wS dT a_seen z16]) [] [] := by
  intro z0 z2 z3 z4 z5 z6 z7 z8 z10 z11 z13 z14 z16 hf
  unfold f_X11_village_J12 at hf
  cases hf
set_option maxRecDepth 20000 in
theorem c_X11_village {l : Launch} {D : va_G} {dT : Nat → ClassId} {a : Nat → Nat} {bt : Nat} {a_reader : Nat → Nat} {a_rvillage : Nat → Nat} {a_rfriends : Nat → Nat} {a_rpicks : Nat → Nat} {a_rkeeps : Nat → Nat} {a_friends : Nat → Nat} {a_coming : Nat → Nat} {a_dusk : Nat → Nat} {a_dpicks : Nat → Nat} {a_dkeeps : Nat → Nat} {a_known : Nat → Nat} {a_fam : Nat → Nat → Nat} {a_acts : Nat → Nat} {a_actsfam : Nat → Nat → Nat} {a_seen : Nat → Nat} {h_pairs : Nat} {h_trials : Nat} {h_imageNow : Nat} {h_imageActs : Nat} {h_imageSeen : Nat} {tx : Nat} {aK aV : Nat → Nat} {v : Ob} {v_tape : (Nat → Int32)} {v_reader : Ob} {v_rvillage : Ob} {v_rfriends : Ob} {v_rpicks : Ob} {v_rkeeps : Ob} {v_friends : Ob} {v_coming : CS} {v_dusk : Ob} {v_dpicks : Ob} {v_dkeeps : Ob} {v_known : Ob} {v_fam : FS} {v_acts : Ob} {v_actsfam : FS} {v_seen : Ob} {p0 : Int32} {res : Int32 × Ob × Ob × Ob × Ob × Ob × Ob × Ob × CS × Ob × Ob × FS × Ob × Ob} (hf : f_X11_village v v_tape v_reader v_rvillage v_rfriends v_rpicks v_rkeeps v_friends v_coming v_dusk v_dpicks v_dkeeps v_known v_fam v_acts v_actsfam v_seen p0 = some res) : CEi aK aV l yX11_village cX11_village 3 (some .int) ({ frames := 108, cells := 0, slots := 0, locals := 4891 } : Room) D dT [.ref (a 0), .int p0] ([wH dT a bt (a_reader 0) (a_friends 0) (a_dusk 0) (a_fam 0 0) (a_coming 0) (a_acts 0) (a_seen 0) h_pairs h_trials h_imageNow h_imageActs h_imageSeen v, [(bt, .inl (dT 2, 700, .inl v_tape))], wRd dT a_reader (a_rvillage 0) (a_rfriends 0) (a_rpicks 0) (a_rkeeps 0) tx v_reader, wV dT a_rvillage v_rvillage, wF dT a_rfriends v_rfriends, wR dT a_rpicks v_rpicks, wR dT a_rkeeps v_rkeeps, wF dT a_friends v_friends, wC dT a_coming (a_dusk 0) (a_fam 0 0) (a_known 0) (pim a_fam v_fam.2.1) v_coming, wD dT a_dusk (a_dpicks 0) (a_dkeeps 0) v_dusk, wR dT a_dpicks v_dpicks, wR dT a_dkeeps v_dkeeps, wK dT a_known v_known, wRw dT v_fam.1 a_fam v_fam.2.2, wA dT a_acts (pim a_actsfam v_actsfam.2.1) v_acts, wRw dT v_actsfam.1 a_actsfam v_actsfam.2.2, wS dT a_seen v_seen]) ([wH dT a bt (a_reader 0) (a_friends 0) (a_dusk 0) (a_fam 0 0) (a_coming 0) (a_acts 0) (a_seen 0) h_pairs h_trials h_imageNow h_imageActs h_imageSeen res.2.1, [(bt, .inl (dT 2, 700, .inl v_tape))], wRd dT a_reader (a_rvillage 0) (a_rfriends 0) (a_rpicks 0) (a_rkeeps 0) bt res.2.2.1, wV dT a_rvillage res.2.2.2.1, wF dT a_rfriends res.2.2.2.2.1, wR dT a_rpicks res.2.2.2.2.2.1, wR dT a_rkeeps res.2.2.2.2.2.2.1, wF dT a_friends res.2.2.2.2.2.2.2.1, wC dT a_coming (a_dusk 0) (a_fam 0 0) (a_known 0) (pim a_fam res.2.2.2.2.2.2.2.2.2.2.2.1.2.1) res.2.2.2.2.2.2.2.2.1, wD dT a_dusk (a_dpicks 0) (a_dkeeps 0) v_dusk, wR dT a_dpicks res.2.2.2.2.2.2.2.2.2.1, wR dT a_dkeeps res.2.2.2.2.2.2.2.2.2.2.1, wK dT a_known v_known, wRw dT res.2.2.2.2.2.2.2.2.2.2.2.1.1 a_fam res.2.2.2.2.2.2.2.2.2.2.2.1.2.2, wA dT a_acts (pim a_actsfam v_actsfam.2.1) res.2.2.2.2.2.2.2.2.2.2.2.2.1, wRw dT v_actsfam.1 a_actsfam v_actsfam.2.2, wS dT a_seen res.2.2.2.2.2.2.2.2.2.2.2.2.2]) res.1 := by
  refine CEi.of (by decide) (Nat.le_of_ble_eq_true rfl) rfl ?_
  intro p e s m args below meth c A C E
  unfold f_X11_village at hf
  refine wa_iload_n C 1 1 dX11_village_0 rfl rfl ?_
  refine wa_if_lt C 12 4 dX11_village_1 rfl rfl (fun c1 => ?_) (fun c1 => ?_)
  · replace hf := ite_t hf c1
    refine wa_lv (lv' := []) [] rfl ?_
    exact w_X11_village_J12 C E v v_reader v_rvillage v_rfriends v_rpicks v_rkeeps v_friends v_coming v_dpicks v_dkeeps v_fam v_acts v_seen hf
  · replace hf := ite_f hf c1
    refine wa_iload_n C 1 5 dX11_village_4 rfl rfl ?_
    refine wa_aload_n C 0 6 dX11_village_5 rfl rfl ?_
    refine wa_get C 9 0 0 1 dX11_village_6 rfl iX11 q358 rfl (Nat.le_of_ble_eq_true rfl) rfl rfl rfl ?_
    refine wa_icmp_le C 22 12 dX11_village_9 rfl rfl (fun c2 => ?_) (fun c2 => ?_)
    · replace hf := ite_t hf c2
      refine wa_aload_n C 0 23 dX11_village_22 rfl rfl ?_
      refine wa_get C 26 0 0 4 dX11_village_23 rfl iX11 q361 rfl (Nat.le_of_ble_eq_true rfl) rfl rfl rfl ?_
      refine wa_aload_n C 0 27 dX11_village_26 rfl rfl ?_
      refine wa_get C 30 0 0 0 dX11_village_27 rfl iX11 q357 rfl (Nat.le_of_ble_eq_true rfl) rfl rfl rfl ?_
      refine wa_iload_n C 1 31 dX11_village_30 rfl rfl ?_
      obtain ⟨q3, hq3, hf⟩ := bind_ex hf
      refine we_callVi (ws' := [wH dT a bt (a_reader 0) (a_friends 0) (a_dusk 0) (a_fam 0 0) (a_coming 0) (a_acts 0) (a_seen 0) h_pairs h_trials h_imageNow h_imageActs h_imageSeen v, [(bt, .inl (dT 2, 700, .inl v_tape))], wRd dT a_reader (a_rvillage 0) (a_rfriends 0) (a_rpicks 0) (a_rkeeps 0) bt q3.2.1, wV dT a_rvillage q3.2.2.1, wF dT a_rfriends q3.2.2.2.1, wR dT a_rpicks q3.2.2.2.2.1, wR dT a_rkeeps q3.2.2.2.2.2, wF dT a_friends v_friends, wC dT a_coming (a_dusk 0) (a_fam 0 0) (a_known 0) (pim a_fam v_fam.2.1) v_coming, wD dT a_dusk (a_dpicks 0) (a_dkeeps 0) v_dusk, wR dT a_dpicks v_dpicks, wR dT a_dkeeps v_dkeeps, wK dT a_known v_known, wRw dT v_fam.1 a_fam v_fam.2.2, wA dT a_acts (pim a_actsfam v_actsfam.2.1) v_acts, wRw dT v_actsfam.1 a_actsfam v_actsfam.2.2, wS dT a_seen v_seen]) (As := [.ref bt, .int p0]) C E 34 dX11_village_31 rfl kv_X11_115 (c_X6_read hq3) ⟨rfl, rfl⟩ ⟨Nat.le_of_ble_eq_true rfl, Nat.le_of_ble_eq_true rfl⟩ (rv_obj (ci := 6) C 2 0 rfl rfl rfl) [2, 3, 4, 5, 6, 1] [0, 7, 8, 9, 10, 11, 12, 13, 14, 15, 16] [0, 16, 11, 12, 13, 14, 15, 1, 2, 3, 4, 5, 6, 7, 8, 9, 10] rfl rfl rfl rfl (by decide) rfl rfl rfl rfl ⟨Nat.zero_le _, Nat.zero_le _⟩ (Nat.le_of_ble_eq_true rfl) ?_
      refine wa_istore_n (lv' := [(0, .ref (a 0)), (1, .int p0), (2, .int q3.1)]) C [1, 2, 0] 35 dX11_village_34 rfl (Nat.le_of_ble_eq_true rfl) rfl ?_
      refine wa_aload_n C 0 36 dX11_village_35 rfl rfl ?_
      refine wa_iconst (v := 0) C 37 dX11_village_36 rfl rfl ?_
      obtain ⟨y5, ey5, hf⟩ := bnd_ex hf
      refine wa_put (ws' := [wH dT a bt (a_reader 0) (a_friends 0) (a_dusk 0) (a_fam 0 0) (a_coming 0) (a_acts 0) (a_seen 0) h_pairs h_trials h_imageNow h_imageActs h_imageSeen y5, [(bt, .inl (dT 2, 700, .inl v_tape))], wRd dT a_reader (a_rvillage 0) (a_rfriends 0) (a_rpicks 0) (a_rkeeps 0) bt q3.2.1, wV dT a_rvillage q3.2.2.1, wF dT a_rfriends q3.2.2.2.1, wR dT a_rpicks q3.2.2.2.2.1, wR dT a_rkeeps q3.2.2.2.2.2, wF dT a_friends v_friends, wC dT a_coming (a_dusk 0) (a_fam 0 0) (a_known 0) (pim a_fam v_fam.2.1) v_coming, wD dT a_dusk (a_dpicks 0) (a_dkeeps 0) v_dusk, wR dT a_dpicks v_dpicks, wR dT a_dkeeps v_dkeeps, wK dT a_known v_known, wRw dT v_fam.1 a_fam v_fam.2.2, wA dT a_acts (pim a_actsfam v_actsfam.2.1) v_acts, wRw dT v_actsfam.1 a_actsfam v_actsfam.2.2, wS dT a_seen v_seen]) C 40 0 0 1 tyX11 dX11_village_37 rfl iX11 tyX11_ok nmX11 q358 rfl (Nat.le_of_ble_eq_true rfl) rfl rfl rfl rfl rfl (Nat.le_of_ble_eq_true rfl) (by rw [ey5]; rfl) ?_
      refine wa_iload_n C 2 41 dX11_village_40 rfl rfl ?_
      refine wa_if_eq C 67 44 dX11_village_41 rfl rfl (fun c6 => ?_) (fun c6 => ?_)
      · replace hf := ite_t hf c6
        refine wa_aload_n C 0 68 dX11_village_67 rfl rfl ?_
        refine wa_iconst (v := (-1)) C 69 dX11_village_68 rfl rfl ?_
        obtain ⟨y7, ey7, hf⟩ := bnd_ex hf
        refine wa_put (ws' := [wH dT a bt (a_reader 0) (a_friends 0) (a_dusk 0) (a_fam 0 0) (a_coming 0) (a_acts 0) (a_seen 0) h_pairs h_trials h_imageNow h_imageActs h_imageSeen y7, [(bt, .inl (dT 2, 700, .inl v_tape))], wRd dT a_reader (a_rvillage 0) (a_rfriends 0) (a_rpicks 0) (a_rkeeps 0) bt q3.2.1, wV dT a_rvillage q3.2.2.1, wF dT a_rfriends q3.2.2.2.1, wR dT a_rpicks q3.2.2.2.2.1, wR dT a_rkeeps q3.2.2.2.2.2, wF dT a_friends v_friends, wC dT a_coming (a_dusk 0) (a_fam 0 0) (a_known 0) (pim a_fam v_fam.2.1) v_coming, wD dT a_dusk (a_dpicks 0) (a_dkeeps 0) v_dusk, wR dT a_dpicks v_dpicks, wR dT a_dkeeps v_dkeeps, wK dT a_known v_known, wRw dT v_fam.1 a_fam v_fam.2.2, wA dT a_acts (pim a_actsfam v_actsfam.2.1) v_acts, wRw dT v_actsfam.1 a_actsfam v_actsfam.2.2, wS dT a_seen v_seen]) C 72 0 0 2 tyX11 dX11_village_69 rfl iX11 tyX11_ok nmX11 q359 rfl (Nat.le_of_ble_eq_true rfl) rfl rfl rfl rfl rfl (Nat.le_of_ble_eq_true rfl) (by rw [ey7]; rfl) ?_
        refine wa_aload_n C 0 73 dX11_village_72 rfl rfl ?_
        refine wa_get C 76 0 0 7 dX11_village_73 rfl iX11 q364 rfl (Nat.le_of_ble_eq_true rfl) rfl rfl rfl ?_
        refine wa_aload_n C 0 77 dX11_village_76 rfl rfl ?_
        refine wa_get C 80 0 0 4 dX11_village_77 rfl iX11 q361 rfl (Nat.le_of_ble_eq_true rfl) rfl rfl rfl ?_
        refine wa_get C 83 2 0 0 dX11_village_80 rfl iX6 q158 rfl (Nat.le_of_ble_eq_true rfl) rfl rfl rfl ?_
        obtain ⟨g8, hf⟩ := grd_ex hf
        replace g8 := of_decide_eq_true g8
        refine wa_openF 13 0 g8 List.not_mem_nil rfl ?_
        obtain ⟨q9, hq9, hf⟩ := bind_ex hf
        obtain ⟨y11, ey11, hf⟩ := bnd_ex hf
        refine wa_callVv (b1 := 17) (q1 := 0) (ci := 10) (ws' := [wH dT a bt (a_reader 0) (a_friends 0) (a_dusk 0) (a_fam 0 0) (a_coming 0) (a_acts 0) (a_seen 0) h_pairs h_trials h_imageNow h_imageActs h_imageSeen y7, [(bt, .inl (dT 2, 700, .inl v_tape))], wRd dT a_reader (a_rvillage 0) (a_rfriends 0) (a_rpicks 0) (a_rkeeps 0) bt q3.2.1, wV dT a_rvillage q3.2.2.1, wF dT a_rfriends q3.2.2.2.1, wR dT a_rpicks q3.2.2.2.2.1, wR dT a_rkeeps q3.2.2.2.2.2, wF dT a_friends v_friends, wC dT a_coming (a_dusk 0) (a_fam 0 0) (a_known 0) (pim a_fam v_fam.2.1) v_coming, wD dT a_dusk (a_dpicks 0) (a_dkeeps 0) v_dusk, wR dT a_dpicks v_dpicks, wR dT a_dkeeps v_dkeeps, wK dT a_known v_known, wRm dT v_fam.1 [0] a_fam v_fam.2.2, wA dT a_acts (pim a_actsfam v_actsfam.2.1) v_acts, wRw dT v_actsfam.1 a_actsfam v_actsfam.2.2, wS dT a_seen v_seen, wV dT (a_fam 0) q9]) (As := [.ref (a_rvillage 0)]) C 86 dX11_village_83 rfl kv_X11_126 (c_X10_copyFrom hq9) ⟨rfl, rfl⟩ ⟨Nat.le_of_ble_eq_true rfl, Nat.le_of_ble_eq_true rfl⟩ rfl rfl rfl [17, 3] [0, 1, 2, 4, 5, 6, 7, 8, 9, 10, 11, 12, 13, 14, 15, 16] [0, 1, 2, 17, 3, 4, 5, 6, 7, 8, 9, 10, 11, 12, 13, 14, 15, 16] rfl rfl rfl rfl (by decide) rfl rfl rfl rfl ⟨Nat.zero_le _, Nat.zero_le _⟩ (Nat.le_of_ble_eq_true rfl) ?_
        refine wa_closeF (ws := [wH dT a bt (a_reader 0) (a_friends 0) (a_dusk 0) (a_fam 0 0) (a_coming 0) (a_acts 0) (a_seen 0) h_pairs h_trials h_imageNow h_imageActs h_imageSeen y7, [(bt, .inl (dT 2, 700, .inl v_tape))], wRd dT a_reader (a_rvillage 0) (a_rfriends 0) (a_rpicks 0) (a_rkeeps 0) bt q3.2.1, wV dT a_rvillage q3.2.2.1, wF dT a_rfriends q3.2.2.2.1, wR dT a_rpicks q3.2.2.2.2.1, wR dT a_rkeeps q3.2.2.2.2.2, wF dT a_friends v_friends, wC dT a_coming (a_dusk 0) (a_fam 0 0) (a_known 0) (pim a_fam v_fam.2.1) v_coming, wD dT a_dusk (a_dpicks 0) (a_dkeeps 0) v_dusk, wR dT a_dpicks v_dpicks, wR dT a_dkeeps v_dkeeps, wK dT a_known v_known, wRm dT v_fam.1 [0] a_fam v_fam.2.2, wA dT a_acts (pim a_actsfam v_actsfam.2.1) v_acts, wRw dT v_actsfam.1 a_actsfam v_actsfam.2.2, wS dT a_seen v_seen]) (ws' := [wH dT a bt (a_reader 0) (a_friends 0) (a_dusk 0) (a_fam 0 0) (a_coming 0) (a_acts 0) (a_seen 0) h_pairs h_trials h_imageNow h_imageActs h_imageSeen y7, [(bt, .inl (dT 2, 700, .inl v_tape))], wRd dT a_reader (a_rvillage 0) (a_rfriends 0) (a_rpicks 0) (a_rkeeps 0) bt q3.2.1, wV dT a_rvillage q3.2.2.1, wF dT a_rfriends q3.2.2.2.1, wR dT a_rpicks q3.2.2.2.2.1, wR dT a_rkeeps q3.2.2.2.2.2, wF dT a_friends v_friends, wC dT a_coming (a_dusk 0) (a_fam 0 0) (a_known 0) (pim a_fam v_fam.2.1) v_coming, wD dT a_dusk (a_dpicks 0) (a_dkeeps 0) v_dusk, wR dT a_dpicks v_dpicks, wR dT a_dkeeps v_dkeeps, wK dT a_known v_known, wRm dT v_fam.1 [] a_fam (sV v_fam.2.2 0 q9), wA dT a_acts (pim a_actsfam v_actsfam.2.1) v_acts, wRw dT v_actsfam.1 a_actsfam v_actsfam.2.2, wS dT a_seen v_seen]) 13 0 g8 List.not_mem_nil rfl rfl rfl ?_
        refine wa_ws (ws' := [wH dT a bt (a_reader 0) (a_friends 0) (a_dusk 0) (a_fam 0 0) (a_coming 0) (a_acts 0) (a_seen 0) h_pairs h_trials h_imageNow h_imageActs h_imageSeen y7, [(bt, .inl (dT 2, 700, .inl v_tape))], wRd dT a_reader (a_rvillage 0) (a_rfriends 0) (a_rpicks 0) (a_rkeeps 0) bt q3.2.1, wV dT a_rvillage q3.2.2.1, wF dT a_rfriends q3.2.2.2.1, wR dT a_rpicks q3.2.2.2.2.1, wR dT a_rkeeps q3.2.2.2.2.2, wF dT a_friends v_friends, wC dT a_coming (a_dusk 0) (a_fam 0 0) (a_known 0) (pim a_fam y11.2.1) v_coming, wD dT a_dusk (a_dpicks 0) (a_dkeeps 0) v_dusk, wR dT a_dpicks v_dpicks, wR dT a_dkeeps v_dkeeps, wK dT a_known v_known, wRw dT y11.1 a_fam y11.2.2, wA dT a_acts (pim a_actsfam v_actsfam.2.1) v_acts, wRw dT v_actsfam.1 a_actsfam v_actsfam.2.2, wS dT a_seen v_seen]) (by rw [ey11]) ?_
        refine wa_aload_n C 0 87 dX11_village_86 rfl rfl ?_
        refine wa_get C 90 0 0 5 dX11_village_87 rfl iX11 q362 rfl (Nat.le_of_ble_eq_true rfl) rfl rfl rfl ?_
        refine wa_aload_n C 0 91 dX11_village_90 rfl rfl ?_
        refine wa_get C 94 0 0 4 dX11_village_91 rfl iX11 q361 rfl (Nat.le_of_ble_eq_true rfl) rfl rfl rfl ?_
        refine wa_get C 97 2 0 1 dX11_village_94 rfl iX6 q160 rfl (Nat.le_of_ble_eq_true rfl) rfl rfl rfl ?_
        obtain ⟨q12, hq12, hf⟩ := bind_ex hf
        refine wa_callVv (b1 := 7) (q1 := 0) (ci := 3) (ws' := [wH dT a bt (a_reader 0) (a_friends 0) (a_dusk 0) (a_fam 0 0) (a_coming 0) (a_acts 0) (a_seen 0) h_pairs h_trials h_imageNow h_imageActs h_imageSeen y7, [(bt, .inl (dT 2, 700, .inl v_tape))], wRd dT a_reader (a_rvillage 0) (a_rfriends 0) (a_rpicks 0) (a_rkeeps 0) bt q3.2.1, wV dT a_rvillage q3.2.2.1, wF dT a_rfriends q3.2.2.2.1, wR dT a_rpicks q3.2.2.2.2.1, wR dT a_rkeeps q3.2.2.2.2.2, wF dT a_friends q12, wC dT a_coming (a_dusk 0) (a_fam 0 0) (a_known 0) (pim a_fam y11.2.1) v_coming, wD dT a_dusk (a_dpicks 0) (a_dkeeps 0) v_dusk, wR dT a_dpicks v_dpicks, wR dT a_dkeeps v_dkeeps, wK dT a_known v_known, wRw dT y11.1 a_fam y11.2.2, wA dT a_acts (pim a_actsfam v_actsfam.2.1) v_acts, wRw dT v_actsfam.1 a_actsfam v_actsfam.2.2, wS dT a_seen v_seen]) (As := [.ref (a_rfriends 0)]) C 100 dX11_village_97 rfl kv_X11_131 (c_X3_copyFrom hq12) ⟨rfl, rfl⟩ ⟨Nat.le_of_ble_eq_true rfl, Nat.le_of_ble_eq_true rfl⟩ rfl rfl rfl [7, 4] [0, 1, 2, 3, 5, 6, 8, 9, 10, 11, 12, 13, 14, 15, 16] [0, 1, 2, 3, 16, 4, 5, 15, 6, 7, 8, 9, 10, 11, 12, 13, 14] rfl rfl rfl rfl (by decide) rfl rfl rfl rfl ⟨Nat.zero_le _, Nat.zero_le _⟩ (Nat.le_of_ble_eq_true rfl) ?_
        refine wa_aload_n C 0 101 dX11_village_100 rfl rfl ?_
        refine wa_get C 104 0 0 6 dX11_village_101 rfl iX11 q363 rfl (Nat.le_of_ble_eq_true rfl) rfl rfl rfl ?_
        refine wa_get C 107 9 0 0 dX11_village_104 rfl iX2 q206 rfl (Nat.le_of_ble_eq_true rfl) rfl rfl rfl ?_
        refine wa_aload_n C 0 108 dX11_village_107 rfl rfl ?_
        refine wa_get C 111 0 0 4 dX11_village_108 rfl iX11 q361 rfl (Nat.le_of_ble_eq_true rfl) rfl rfl rfl ?_
        refine wa_get C 114 2 0 2 dX11_village_111 rfl iX6 q162 rfl (Nat.le_of_ble_eq_true rfl) rfl rfl rfl ?_
        obtain ⟨q14, hq14, hf⟩ := bind_ex hf
        refine wa_callVv (b1 := 10) (q1 := 0) (ci := 7) (ws' := [wH dT a bt (a_reader 0) (a_friends 0) (a_dusk 0) (a_fam 0 0) (a_coming 0) (a_acts 0) (a_seen 0) h_pairs h_trials h_imageNow h_imageActs h_imageSeen y7, [(bt, .inl (dT 2, 700, .inl v_tape))], wRd dT a_reader (a_rvillage 0) (a_rfriends 0) (a_rpicks 0) (a_rkeeps 0) bt q3.2.1, wV dT a_rvillage q3.2.2.1, wF dT a_rfriends q3.2.2.2.1, wR dT a_rpicks q3.2.2.2.2.1, wR dT a_rkeeps q3.2.2.2.2.2, wF dT a_friends q12, wC dT a_coming (a_dusk 0) (a_fam 0 0) (a_known 0) (pim a_fam y11.2.1) v_coming, wD dT a_dusk (a_dpicks 0) (a_dkeeps 0) v_dusk, wR dT a_dpicks q14, wR dT a_dkeeps v_dkeeps, wK dT a_known v_known, wRw dT y11.1 a_fam y11.2.2, wA dT a_acts (pim a_actsfam v_actsfam.2.1) v_acts, wRw dT v_actsfam.1 a_actsfam v_actsfam.2.2, wS dT a_seen v_seen]) (As := [.ref (a_rpicks 0)]) C 117 dX11_village_114 rfl kv_X11_139 (c_X7_copyFrom hq14) ⟨rfl, rfl⟩ ⟨Nat.le_of_ble_eq_true rfl, Nat.le_of_ble_eq_true rfl⟩ rfl rfl rfl [10, 5] [0, 1, 2, 3, 4, 6, 7, 8, 9, 11, 12, 13, 14, 15, 16] [0, 1, 2, 3, 4, 16, 5, 6, 7, 8, 15, 9, 10, 11, 12, 13, 14] rfl rfl rfl rfl (by decide) rfl rfl rfl rfl ⟨Nat.zero_le _, Nat.zero_le _⟩ (Nat.le_of_ble_eq_true rfl) ?_
        refine wa_aload_n C 0 118 dX11_village_117 rfl rfl ?_
        refine wa_get C 121 0 0 6 dX11_village_118 rfl iX11 q363 rfl (Nat.le_of_ble_eq_true rfl) rfl rfl rfl ?_
        refine wa_get C 124 9 0 1 dX11_village_121 rfl iX2 q208 rfl (Nat.le_of_ble_eq_true rfl) rfl rfl rfl ?_
        refine wa_aload_n C 0 125 dX11_village_124 rfl rfl ?_
        refine wa_get C 128 0 0 4 dX11_village_125 rfl iX11 q361 rfl (Nat.le_of_ble_eq_true rfl) rfl rfl rfl ?_
        refine wa_get C 131 2 0 3 dX11_village_128 rfl iX6 q164 rfl (Nat.le_of_ble_eq_true rfl) rfl rfl rfl ?_
        obtain ⟨q16, hq16, hf⟩ := bind_ex hf
        refine wa_callVv (b1 := 11) (q1 := 0) (ci := 7) (ws' := [wH dT a bt (a_reader 0) (a_friends 0) (a_dusk 0) (a_fam 0 0) (a_coming 0) (a_acts 0) (a_seen 0) h_pairs h_trials h_imageNow h_imageActs h_imageSeen y7, [(bt, .inl (dT 2, 700, .inl v_tape))], wRd dT a_reader (a_rvillage 0) (a_rfriends 0) (a_rpicks 0) (a_rkeeps 0) bt q3.2.1, wV dT a_rvillage q3.2.2.1, wF dT a_rfriends q3.2.2.2.1, wR dT a_rpicks q3.2.2.2.2.1, wR dT a_rkeeps q3.2.2.2.2.2, wF dT a_friends q12, wC dT a_coming (a_dusk 0) (a_fam 0 0) (a_known 0) (pim a_fam y11.2.1) v_coming, wD dT a_dusk (a_dpicks 0) (a_dkeeps 0) v_dusk, wR dT a_dpicks q14, wR dT a_dkeeps q16, wK dT a_known v_known, wRw dT y11.1 a_fam y11.2.2, wA dT a_acts (pim a_actsfam v_actsfam.2.1) v_acts, wRw dT v_actsfam.1 a_actsfam v_actsfam.2.2, wS dT a_seen v_seen]) (As := [.ref (a_rkeeps 0)]) C 134 dX11_village_131 rfl kv_X11_139 (c_X7_copyFrom hq16) ⟨rfl, rfl⟩ ⟨Nat.le_of_ble_eq_true rfl, Nat.le_of_ble_eq_true rfl⟩ rfl rfl rfl [11, 6] [0, 1, 2, 3, 4, 5, 7, 8, 9, 10, 12, 13, 14, 15, 16] [0, 1, 2, 3, 4, 5, 16, 6, 7, 8, 9, 15, 10, 11, 12, 13, 14] rfl rfl rfl rfl (by decide) rfl rfl rfl rfl ⟨Nat.zero_le _, Nat.zero_le _⟩ (Nat.le_of_ble_eq_true rfl) ?_
        refine wa_aload_n C 0 135 dX11_village_134 rfl rfl ?_
        refine wa_get C 138 0 0 8 dX11_village_135 rfl iX11 q365 rfl (Nat.le_of_ble_eq_true rfl) rfl rfl rfl ?_
        obtain ⟨q18, hq18, hf⟩ := bind_ex hf
        refine wa_callVv (b1 := 8) (q1 := 0) (ci := 1) (ws' := [wH dT a bt (a_reader 0) (a_friends 0) (a_dusk 0) (a_fam 0 0) (a_coming 0) (a_acts 0) (a_seen 0) h_pairs h_trials h_imageNow h_imageActs h_imageSeen y7, [(bt, .inl (dT 2, 700, .inl v_tape))], wRd dT a_reader (a_rvillage 0) (a_rfriends 0) (a_rpicks 0) (a_rkeeps 0) bt q3.2.1, wV dT a_rvillage q3.2.2.1, wF dT a_rfriends q3.2.2.2.1, wR dT a_rpicks q3.2.2.2.2.1, wR dT a_rkeeps q3.2.2.2.2.2, wF dT a_friends q12, wC dT a_coming (a_dusk 0) (a_fam 0 0) (a_known 0) (pim a_fam y11.2.1) q18, wD dT a_dusk (a_dpicks 0) (a_dkeeps 0) v_dusk, wR dT a_dpicks q14, wR dT a_dkeeps q16, wK dT a_known v_known, wRw dT y11.1 a_fam y11.2.2, wA dT a_acts (pim a_actsfam v_actsfam.2.1) v_acts, wRw dT v_actsfam.1 a_actsfam v_actsfam.2.2, wS dT a_seen v_seen]) (As := []) C 141 dX11_village_138 rfl kv_X11_148 (c_X1_changed hq18) ⟨rfl, rfl⟩ ⟨Nat.le_of_ble_eq_true rfl, Nat.le_of_ble_eq_true rfl⟩ rfl rfl rfl [8, 9, 10, 11, 12, 13] [0, 1, 2, 3, 4, 5, 6, 7, 14, 15, 16] [0, 1, 2, 3, 4, 5, 6, 7, 11, 12, 13, 14, 15, 16, 8, 9, 10] rfl rfl rfl rfl (by decide) rfl rfl rfl rfl ⟨Nat.zero_le _, Nat.zero_le _⟩ (Nat.le_of_ble_eq_true rfl) ?_
        refine wa_aload_n C 0 142 dX11_village_141 rfl rfl ?_
        refine wa_get C 145 0 0 9 dX11_village_142 rfl iX11 q366 rfl (Nat.le_of_ble_eq_true rfl) rfl rfl rfl ?_
        refine wa_iconst (v := 0) C 146 dX11_village_145 rfl rfl ?_
        obtain ⟨y20, ey20, hf⟩ := bnd_ex hf
        refine wa_put (ws' := [wH dT a bt (a_reader 0) (a_friends 0) (a_dusk 0) (a_fam 0 0) (a_coming 0) (a_acts 0) (a_seen 0) h_pairs h_trials h_imageNow h_imageActs h_imageSeen y7, [(bt, .inl (dT 2, 700, .inl v_tape))], wRd dT a_reader (a_rvillage 0) (a_rfriends 0) (a_rpicks 0) (a_rkeeps 0) bt q3.2.1, wV dT a_rvillage q3.2.2.1, wF dT a_rfriends q3.2.2.2.1, wR dT a_rpicks q3.2.2.2.2.1, wR dT a_rkeeps q3.2.2.2.2.2, wF dT a_friends q12, wC dT a_coming (a_dusk 0) (a_fam 0 0) (a_known 0) (pim a_fam y11.2.1) q18, wD dT a_dusk (a_dpicks 0) (a_dkeeps 0) v_dusk, wR dT a_dpicks q14, wR dT a_dkeeps q16, wK dT a_known v_known, wRw dT y11.1 a_fam y11.2.2, wA dT a_acts (pim a_actsfam v_actsfam.2.1) y20, wRw dT v_actsfam.1 a_actsfam v_actsfam.2.2, wS dT a_seen v_seen]) C 149 14 0 0 tyX0 dX11_village_146 rfl iX0 tyX0_ok nmX0 q280 rfl (Nat.le_of_ble_eq_true rfl) rfl rfl rfl rfl rfl (Nat.le_of_ble_eq_true rfl) (by rw [ey20]; rfl) ?_
        refine wa_aload_n C 0 150 dX11_village_149 rfl rfl ?_
        refine wa_get C 153 0 0 10 dX11_village_150 rfl iX11 q367 rfl (Nat.le_of_ble_eq_true rfl) rfl rfl rfl ?_
        refine wa_iconst (v := 0) C 154 dX11_village_153 rfl rfl ?_
        obtain ⟨y21, ey21, hf⟩ := bnd_ex hf
        refine wa_put (ws' := [wH dT a bt (a_reader 0) (a_friends 0) (a_dusk 0) (a_fam 0 0) (a_coming 0) (a_acts 0) (a_seen 0) h_pairs h_trials h_imageNow h_imageActs h_imageSeen y7, [(bt, .inl (dT 2, 700, .inl v_tape))], wRd dT a_reader (a_rvillage 0) (a_rfriends 0) (a_rpicks 0) (a_rkeeps 0) bt q3.2.1, wV dT a_rvillage q3.2.2.1, wF dT a_rfriends q3.2.2.2.1, wR dT a_rpicks q3.2.2.2.2.1, wR dT a_rkeeps q3.2.2.2.2.2, wF dT a_friends q12, wC dT a_coming (a_dusk 0) (a_fam 0 0) (a_known 0) (pim a_fam y11.2.1) q18, wD dT a_dusk (a_dpicks 0) (a_dkeeps 0) v_dusk, wR dT a_dpicks q14, wR dT a_dkeeps q16, wK dT a_known v_known, wRw dT y11.1 a_fam y11.2.2, wA dT a_acts (pim a_actsfam v_actsfam.2.1) y20, wRw dT v_actsfam.1 a_actsfam v_actsfam.2.2, wS dT a_seen y21]) C 157 16 0 0 tyX8 dX11_village_154 rfl iX8 tyX8_ok nmX8 q294 rfl (Nat.le_of_ble_eq_true rfl) rfl rfl rfl rfl rfl (Nat.le_of_ble_eq_true rfl) (by rw [ey21]; rfl) ?_
        refine wa_aload_n C 0 158 dX11_village_157 rfl rfl ?_
        refine wa_iconst (v := 0) C 159 dX11_village_158 rfl rfl ?_
        obtain ⟨y22, ey22, hf⟩ := bnd_ex hf
        refine wa_put (ws' := [wH dT a bt (a_reader 0) (a_friends 0) (a_dusk 0) (a_fam 0 0) (a_coming 0) (a_acts 0) (a_seen 0) h_pairs h_trials h_imageNow h_imageActs h_imageSeen y22, [(bt, .inl (dT 2, 700, .inl v_tape))], wRd dT a_reader (a_rvillage 0) (a_rfriends 0) (a_rpicks 0) (a_rkeeps 0) bt q3.2.1, wV dT a_rvillage q3.2.2.1, wF dT a_rfriends q3.2.2.2.1, wR dT a_rpicks q3.2.2.2.2.1, wR dT a_rkeeps q3.2.2.2.2.2, wF dT a_friends q12, wC dT a_coming (a_dusk 0) (a_fam 0 0) (a_known 0) (pim a_fam y11.2.1) q18, wD dT a_dusk (a_dpicks 0) (a_dkeeps 0) v_dusk, wR dT a_dpicks q14, wR dT a_dkeeps q16, wK dT a_known v_known, wRw dT y11.1 a_fam y11.2.2, wA dT a_acts (pim a_actsfam v_actsfam.2.1) y20, wRw dT v_actsfam.1 a_actsfam v_actsfam.2.2, wS dT a_seen y21]) C 162 0 0 13 tyX11 dX11_village_159 rfl iX11 tyX11_ok nmX11 q370 rfl (Nat.le_of_ble_eq_true rfl) rfl rfl rfl rfl rfl (Nat.le_of_ble_eq_true rfl) (by rw [ey22]; rfl) ?_
        refine wa_iconst (v := 0) C 163 dX11_village_162 rfl rfl ?_
        cases hf
        exact wa_iret C dX11_village_163 rfl rfl
      · replace hf := ite_f hf c6
        refine wa_aload_n C 0 45 dX11_village_44 rfl rfl ?_
        refine wa_aload_n C 0 46 dX11_village_45 rfl rfl ?_
        refine wa_get C 49 0 0 4 dX11_village_46 rfl iX11 q361 rfl (Nat.le_of_ble_eq_true rfl) rfl rfl rfl ?_
        obtain ⟨q23, hq23, hf⟩ := bind_ex hf
        refine wa_callVi (b1 := 2) (q1 := 0) (ci := 6) (ws' := [wH dT a bt (a_reader 0) (a_friends 0) (a_dusk 0) (a_fam 0 0) (a_coming 0) (a_acts 0) (a_seen 0) h_pairs h_trials h_imageNow h_imageActs h_imageSeen y5, [(bt, .inl (dT 2, 700, .inl v_tape))], wRd dT a_reader (a_rvillage 0) (a_rfriends 0) (a_rpicks 0) (a_rkeeps 0) bt q3.2.1, wV dT a_rvillage q3.2.2.1, wF dT a_rfriends q3.2.2.2.1, wR dT a_rpicks q3.2.2.2.2.1, wR dT a_rkeeps q3.2.2.2.2.2, wF dT a_friends v_friends, wC dT a_coming (a_dusk 0) (a_fam 0 0) (a_known 0) (pim a_fam v_fam.2.1) v_coming, wD dT a_dusk (a_dpicks 0) (a_dkeeps 0) v_dusk, wR dT a_dpicks v_dpicks, wR dT a_dkeeps v_dkeeps, wK dT a_known v_known, wRw dT v_fam.1 a_fam v_fam.2.2, wA dT a_acts (pim a_actsfam v_actsfam.2.1) v_acts, wRw dT v_actsfam.1 a_actsfam v_actsfam.2.2, wS dT a_seen v_seen]) (As := []) C 52 dX11_village_49 rfl kv_X11_119 (c_X6_place hq23) ⟨rfl, rfl⟩ ⟨Nat.le_of_ble_eq_true rfl, Nat.le_of_ble_eq_true rfl⟩ rfl rfl rfl [2] [0, 1, 3, 4, 5, 6, 7, 8, 9, 10, 11, 12, 13, 14, 15, 16] [0, 1, 16, 2, 3, 4, 5, 6, 7, 8, 9, 10, 11, 12, 13, 14, 15] rfl rfl rfl rfl (by decide) rfl rfl rfl rfl ⟨Nat.zero_le _, Nat.zero_le _⟩ (Nat.le_of_ble_eq_true rfl) ?_
        obtain ⟨y25, ey25, hf⟩ := bnd_ex hf
        refine wa_put (ws' := [wH dT a bt (a_reader 0) (a_friends 0) (a_dusk 0) (a_fam 0 0) (a_coming 0) (a_acts 0) (a_seen 0) h_pairs h_trials h_imageNow h_imageActs h_imageSeen y25, [(bt, .inl (dT 2, 700, .inl v_tape))], wRd dT a_reader (a_rvillage 0) (a_rfriends 0) (a_rpicks 0) (a_rkeeps 0) bt q3.2.1, wV dT a_rvillage q3.2.2.1, wF dT a_rfriends q3.2.2.2.1, wR dT a_rpicks q3.2.2.2.2.1, wR dT a_rkeeps q3.2.2.2.2.2, wF dT a_friends v_friends, wC dT a_coming (a_dusk 0) (a_fam 0 0) (a_known 0) (pim a_fam v_fam.2.1) v_coming, wD dT a_dusk (a_dpicks 0) (a_dkeeps 0) v_dusk, wR dT a_dpicks v_dpicks, wR dT a_dkeeps v_dkeeps, wK dT a_known v_known, wRw dT v_fam.1 a_fam v_fam.2.2, wA dT a_acts (pim a_actsfam v_actsfam.2.1) v_acts, wRw dT v_actsfam.1 a_actsfam v_actsfam.2.2, wS dT a_seen v_seen]) C 55 0 0 2 tyX11 dX11_village_52 rfl iX11 tyX11_ok nmX11 q359 rfl (Nat.le_of_ble_eq_true rfl) rfl rfl rfl rfl rfl (Nat.le_of_ble_eq_true rfl) (by rw [ey25]; rfl) ?_
        refine wa_aload_n C 0 56 dX11_village_55 rfl rfl ?_
        refine wa_get C 59 0 0 3 dX11_village_56 rfl iX11 q360 rfl (Nat.le_of_ble_eq_true rfl) rfl rfl rfl ?_
        refine wa_iconst (v := 0) C 60 dX11_village_59 rfl rfl ?_
        refine wa_dup2 C 61 dX11_village_60 rfl rfl rfl ?_
        obtain ⟨g26, hf⟩ := grd_ex hf
        refine wa_iald C 62 0 1 dX11_village_61 rfl rfl rfl (vi_in g26) ?_
        refine wa_iconst (v := 1) C 63 dX11_village_62 rfl rfl ?_
        refine wa_iadd C 64 dX11_village_63 rfl ?_
        obtain ⟨g27, hf⟩ := grd_ex hf
        obtain ⟨y28, ey28, hf⟩ := bnd_ex hf
        refine wa_iast (ws' := [wH dT a bt (a_reader 0) (a_friends 0) (a_dusk 0) (a_fam 0 0) (a_coming 0) (a_acts 0) (a_seen 0) h_pairs h_trials h_imageNow h_imageActs h_imageSeen y28, [(bt, .inl (dT 2, 700, .inl v_tape))], wRd dT a_reader (a_rvillage 0) (a_rfriends 0) (a_rpicks 0) (a_rkeeps 0) bt q3.2.1, wV dT a_rvillage q3.2.2.1, wF dT a_rfriends q3.2.2.2.1, wR dT a_rpicks q3.2.2.2.2.1, wR dT a_rkeeps q3.2.2.2.2.2, wF dT a_friends v_friends, wC dT a_coming (a_dusk 0) (a_fam 0 0) (a_known 0) (pim a_fam v_fam.2.1) v_coming, wD dT a_dusk (a_dpicks 0) (a_dkeeps 0) v_dusk, wR dT a_dpicks v_dpicks, wR dT a_dkeeps v_dkeeps, wK dT a_known v_known, wRw dT v_fam.1 a_fam v_fam.2.2, wA dT a_acts (pim a_actsfam v_actsfam.2.1) v_acts, wRw dT v_actsfam.1 a_actsfam v_actsfam.2.2, wS dT a_seen v_seen]) C 65 0 1 dX11_village_64 rfl rfl rfl (vi_in g27) (by rw [ey28]; rfl) ?_
        refine wa_iload_n C 2 66 dX11_village_65 rfl rfl ?_
        cases hf
        exact wa_iret C dX11_village_66 rfl rfl
    · replace hf := ite_f hf c2
      refine wa_lv (lv' := []) [] rfl ?_
      exact w_X11_village_J12 C E v v_reader v_rvillage v_rfriends v_rpicks v_rkeeps v_friends v_coming v_dpicks v_dkeeps v_fam v_acts v_seen hf
def f_X11_fault (v : Ob) : Option (Int32) := some ((v.1 2))
set_option maxRecDepth 20000 in
theorem c_X11_fault {l : Launch} {D : va_G} {dT : Nat → ClassId} {a : Nat → Nat} {h_tape : Nat} {h_reader : Nat} {h_friends : Nat} {h_dusk : Nat} {h_now : Nat} {h_coming : Nat} {h_acts : Nat} {h_seen : Nat} {h_pairs : Nat} {h_trials : Nat} {h_imageNow : Nat} {h_imageActs : Nat} {h_imageSeen : Nat} {v : Ob} {res : Int32} (hf : f_X11_fault v = some res) : CTi l yX11_fault cX11_fault 1 (some .int) ({ frames := 0, cells := 0, slots := 0, locals := 0 } : Room) D dT [.ref (a 0)] ([wH dT a h_tape h_reader h_friends h_dusk h_now h_coming h_acts h_seen h_pairs h_trials h_imageNow h_imageActs h_imageSeen v]) ([wH dT a h_tape h_reader h_friends h_dusk h_now h_coming h_acts h_seen h_pairs h_trials h_imageNow h_imageActs h_imageSeen v]) res := by
  refine CTi.of (by decide) (Nat.le_of_ble_eq_true rfl) rfl ?_
  intro p e s m args below meth c A C
  unfold f_X11_fault at hf
  refine wa_aload_n C 0 1 dX11_fault_0 rfl rfl ?_
  refine wa_get C 4 0 0 2 dX11_fault_1 rfl iX11 q359 rfl (Nat.le_of_ble_eq_true rfl) rfl rfl rfl ?_
  cases hf
  exact wa_iret C dX11_fault_4 rfl rfl
theorem kv_X11_164 : KV RX11 164 yX10_greatest cX10_greatest 3 (some .int) 0 := KV.mk q940 q941 q942 q3 q943 ⟨by decide, by decide, by decide +kernel⟩
theorem kv_X11_167 : KV RX11 167 yX10_alone cX10_alone 3 (some .int) 0 := KV.mk q945 q946 q947 q3 q948 ⟨by decide, by decide, by decide +kernel⟩
theorem kv_X11_170 : KV RX11 170 yX10_isStairs cX10_isStairs 3 (some .boolean) 0 := KV.mk q953 q954 q955 q3 q956 ⟨by decide, by decide, by decide +kernel⟩
theorem kv_X11_174 : KV RX11 174 yX10_pasts cX10_pasts 3 (some .int) 0 := KV.mk q957 q958 q959 q3 q960 ⟨by decide, by decide, by decide +kernel⟩
theorem kv_X11_180 : KV RX11 180 yX3_inOneHouse cX3_inOneHouse 4 (some .int) 1 := KV.mk q967 q968 q969 q4 q970 ⟨by decide, by decide, by decide +kernel⟩
theorem kv_X11_184 : KV RX11 184 yX3_toTell cX3_toTell 5 (some .int) 1 := KV.mk q975 q976 q977 q4 q978 ⟨by decide, by decide, by decide +kernel⟩
def f_X11_count (v : Ob) (v_friends : Ob) (v_fam : FS) (v_acts : Ob) (v_actsfam : FS) (v_seen : Ob) (p0 : Int32) : Option (Int32) := (if p0 = 0 then grd (decide (0 < v_fam.1)) (some (((v_fam.2.2 0).1 0))) else (if p0 = 1 then grd (decide (0 < v_fam.1)) (some (((v_fam.2.2 0).1 1))) else (if p0 = 2 then grd (decide (0 < v_fam.1)) (some (((v_fam.2.2 0).1 2))) else (if p0 = 3 then grd (decide (0 < v_fam.1)) ((f_X10_greatest (v_fam.2.2 0)).bind (fun q9 => some (q9))) else (if p0 = 4 then grd (decide (0 < v_fam.1)) ((f_X10_alone (v_fam.2.2 0)).bind (fun q13 => some (q13))) else (if p0 = 5 then grd (decide (0 < v_fam.1)) ((f_X10_isStairs (v_fam.2.2 0)).bind (fun q17 => (if q17 = 0 then some ((0 : Int32)) else some ((1 : Int32))))) else (if p0 = 6 then grd (decide (0 < v_fam.1)) ((f_X10_pasts (v_fam.2.2 0)).bind (fun q22 => some (q22))) else (if p0 = 7 then grd (decide (0 < v_fam.1)) ((f_X10_pasts (v_fam.2.2 0)).bind (fun q26 => (if q26 = 0 then some ((1 : Int32)) else some ((0 : Int32))))) else (if p0 = 8 then some ((v_friends.1 0)) else (if p0 = 9 then grd (decide (0 < v_fam.1)) ((f_X3_inOneHouse v_friends (v_fam.2.2 0)).bind (fun q32 => some (q32))) else (if p0 = 10 then grd (decide (0 < v_fam.1)) ((f_X3_toTell v_friends ((v_fam.2.2 0).1 0)).bind (fun q36 => some (q36))) else (if p0 = 11 then some ((v_acts.1 0)) else (if p0 = 12 then some ((v_seen.1 0)) else (if p0 = 13 then some ((v.1 1)) else (if p0 = 14 then grd (vi (0 : Int32) 3) (some ((v.2 1 ((0 : Int32)).toNatClampNeg))) else (if p0 = 15 then grd (vi (1 : Int32) 3) (some ((v.2 1 ((1 : Int32)).toNatClampNeg))) else (if p0 = 16 then grd (vi (2 : Int32) 3) (some ((v.2 1 ((2 : Int32)).toNatClampNeg))) else none)))))))))))))))))
set_option maxRecDepth 20000 in
theorem c_X11_count {l : Launch} {D : va_G} {dT : Nat → ClassId} {a : Nat → Nat} {a_friends : Nat → Nat} {a_fam : Nat → Nat → Nat} {a_acts : Nat → Nat} {a_actsfam : Nat → Nat → Nat} {a_seen : Nat → Nat} {h_tape : Nat} {h_reader : Nat} {h_dusk : Nat} {h_coming : Nat} {h_pairs : Nat} {h_trials : Nat} {h_imageNow : Nat} {h_imageActs : Nat} {h_imageSeen : Nat} {v : Ob} {v_friends : Ob} {v_fam : FS} {v_acts : Ob} {v_actsfam : FS} {v_seen : Ob} {p0 : Int32} {res : Int32} (hf : f_X11_count v v_friends v_fam v_acts v_actsfam v_seen p0 = some res) : CTi l yX11_count cX11_count 2 (some .int) ({ frames := 4, cells := 0, slots := 0, locals := 82 } : Room) D dT [.ref (a 0), .int p0] ([wH dT a h_tape h_reader (a_friends 0) h_dusk (a_fam 0 0) h_coming (a_acts 0) (a_seen 0) h_pairs h_trials h_imageNow h_imageActs h_imageSeen v, wF dT a_friends v_friends, wRw dT v_fam.1 a_fam v_fam.2.2, wA dT a_acts (pim a_actsfam v_actsfam.2.1) v_acts, wRw dT v_actsfam.1 a_actsfam v_actsfam.2.2, wS dT a_seen v_seen]) ([wH dT a h_tape h_reader (a_friends 0) h_dusk (a_fam 0 0) h_coming (a_acts 0) (a_seen 0) h_pairs h_trials h_imageNow h_imageActs h_imageSeen v, wF dT a_friends v_friends, wRw dT v_fam.1 a_fam v_fam.2.2, wA dT a_acts (pim a_actsfam v_actsfam.2.1) v_acts, wRw dT v_actsfam.1 a_actsfam v_actsfam.2.2, wS dT a_seen v_seen]) res := by
  refine CTi.of (by decide) (Nat.le_of_ble_eq_true rfl) rfl ?_
  intro p e s m args below meth c A C
  unfold f_X11_count at hf
  refine wa_iload_n C 1 1 dX11_count_0 rfl rfl ?_
  by_cases c1 : p0 = 0
  · replace hf := ite_t hf c1
    refine wa_ts C 0 (83) 84 dX11_count_1 c1 (by decide) (by decide) rfl rfl ?_
    refine wa_aload_n C 0 85 dX11_count_84 rfl rfl ?_
    refine wa_get C 88 0 0 7 dX11_count_85 rfl iX11 q364 rfl (Nat.le_of_ble_eq_true rfl) rfl rfl rfl ?_
    obtain ⟨g2, hf⟩ := grd_ex hf
    refine wa_openF 2 0 (of_decide_eq_true g2) List.not_mem_nil rfl ?_
    refine wa_get C 91 6 0 0 dX11_count_88 rfl iX10 q53 rfl (Nat.le_of_ble_eq_true rfl) rfl rfl rfl ?_
    refine wa_closeR (ws := [wH dT a h_tape h_reader (a_friends 0) h_dusk (a_fam 0 0) h_coming (a_acts 0) (a_seen 0) h_pairs h_trials h_imageNow h_imageActs h_imageSeen v, wF dT a_friends v_friends, wRm dT v_fam.1 [0] a_fam v_fam.2.2, wA dT a_acts (pim a_actsfam v_actsfam.2.1) v_acts, wRw dT v_actsfam.1 a_actsfam v_actsfam.2.2, wS dT a_seen v_seen]) (ws' := [wH dT a h_tape h_reader (a_friends 0) h_dusk (a_fam 0 0) h_coming (a_acts 0) (a_seen 0) h_pairs h_trials h_imageNow h_imageActs h_imageSeen v, wF dT a_friends v_friends, wRw dT v_fam.1 a_fam v_fam.2.2, wA dT a_acts (pim a_actsfam v_actsfam.2.1) v_acts, wRw dT v_actsfam.1 a_actsfam v_actsfam.2.2, wS dT a_seen v_seen]) 2 0 (of_decide_eq_true g2) List.not_mem_nil rfl rfl ?_
    cases hf
    exact wa_iret C dX11_count_91 rfl rfl
  · replace hf := ite_f hf c1
    by_cases c3 : p0 = 1
    · replace hf := ite_t hf c3
      refine wa_ts C 1 (91) 92 dX11_count_1 c3 (by decide) (by decide) rfl rfl ?_
      refine wa_aload_n C 0 93 dX11_count_92 rfl rfl ?_
      refine wa_get C 96 0 0 7 dX11_count_93 rfl iX11 q364 rfl (Nat.le_of_ble_eq_true rfl) rfl rfl rfl ?_
      obtain ⟨g4, hf⟩ := grd_ex hf
      refine wa_openF 2 0 (of_decide_eq_true g4) List.not_mem_nil rfl ?_
      refine wa_get C 99 6 0 1 dX11_count_96 rfl iX10 q60 rfl (Nat.le_of_ble_eq_true rfl) rfl rfl rfl ?_
      refine wa_closeR (ws := [wH dT a h_tape h_reader (a_friends 0) h_dusk (a_fam 0 0) h_coming (a_acts 0) (a_seen 0) h_pairs h_trials h_imageNow h_imageActs h_imageSeen v, wF dT a_friends v_friends, wRm dT v_fam.1 [0] a_fam v_fam.2.2, wA dT a_acts (pim a_actsfam v_actsfam.2.1) v_acts, wRw dT v_actsfam.1 a_actsfam v_actsfam.2.2, wS dT a_seen v_seen]) (ws' := [wH dT a h_tape h_reader (a_friends 0) h_dusk (a_fam 0 0) h_coming (a_acts 0) (a_seen 0) h_pairs h_trials h_imageNow h_imageActs h_imageSeen v, wF dT a_friends v_friends, wRw dT v_fam.1 a_fam v_fam.2.2, wA dT a_acts (pim a_actsfam v_actsfam.2.1) v_acts, wRw dT v_actsfam.1 a_actsfam v_actsfam.2.2, wS dT a_seen v_seen]) 2 0 (of_decide_eq_true g4) List.not_mem_nil rfl rfl ?_
      cases hf
      exact wa_iret C dX11_count_99 rfl rfl
    · replace hf := ite_f hf c3
      by_cases c5 : p0 = 2
      · replace hf := ite_t hf c5
        refine wa_ts C 2 (99) 100 dX11_count_1 c5 (by decide) (by decide) rfl rfl ?_
        refine wa_aload_n C 0 101 dX11_count_100 rfl rfl ?_
        refine wa_get C 104 0 0 7 dX11_count_101 rfl iX11 q364 rfl (Nat.le_of_ble_eq_true rfl) rfl rfl rfl ?_
        obtain ⟨g6, hf⟩ := grd_ex hf
        refine wa_openF 2 0 (of_decide_eq_true g6) List.not_mem_nil rfl ?_
        refine wa_get C 107 6 0 2 dX11_count_104 rfl iX10 q63 rfl (Nat.le_of_ble_eq_true rfl) rfl rfl rfl ?_
        refine wa_closeR (ws := [wH dT a h_tape h_reader (a_friends 0) h_dusk (a_fam 0 0) h_coming (a_acts 0) (a_seen 0) h_pairs h_trials h_imageNow h_imageActs h_imageSeen v, wF dT a_friends v_friends, wRm dT v_fam.1 [0] a_fam v_fam.2.2, wA dT a_acts (pim a_actsfam v_actsfam.2.1) v_acts, wRw dT v_actsfam.1 a_actsfam v_actsfam.2.2, wS dT a_seen v_seen]) (ws' := [wH dT a h_tape h_reader (a_friends 0) h_dusk (a_fam 0 0) h_coming (a_acts 0) (a_seen 0) h_pairs h_trials h_imageNow h_imageActs h_imageSeen v, wF dT a_friends v_friends, wRw dT v_fam.1 a_fam v_fam.2.2, wA dT a_acts (pim a_actsfam v_actsfam.2.1) v_acts, wRw dT v_actsfam.1 a_actsfam v_actsfam.2.2, wS dT a_seen v_seen]) 2 0 (of_decide_eq_true g6) List.not_mem_nil rfl rfl ?_
        cases hf
        exact wa_iret C dX11_count_107 rfl rfl
      · replace hf := ite_f hf c5
        by_cases c7 : p0 = 3
        · replace hf := ite_t hf c7
          refine wa_ts C 3 (107) 108 dX11_count_1 c7 (by decide) (by decide) rfl rfl ?_
          refine wa_aload_n C 0 109 dX11_count_108 rfl rfl ?_
          refine wa_get C 112 0 0 7 dX11_count_109 rfl iX11 q364 rfl (Nat.le_of_ble_eq_true rfl) rfl rfl rfl ?_
          obtain ⟨g8, hf⟩ := grd_ex hf
          replace g8 := of_decide_eq_true g8
          refine wa_openF 2 0 g8 List.not_mem_nil rfl ?_
          obtain ⟨q9, hq9, hf⟩ := bind_ex hf
          refine wa_callVi (b1 := 6) (q1 := 0) (ci := 10) (ws' := [wH dT a h_tape h_reader (a_friends 0) h_dusk (a_fam 0 0) h_coming (a_acts 0) (a_seen 0) h_pairs h_trials h_imageNow h_imageActs h_imageSeen v, wF dT a_friends v_friends, wRm dT v_fam.1 [0] a_fam v_fam.2.2, wA dT a_acts (pim a_actsfam v_actsfam.2.1) v_acts, wRw dT v_actsfam.1 a_actsfam v_actsfam.2.2, wS dT a_seen v_seen, wV dT (a_fam 0) (v_fam.2.2 0)]) (As := []) C 115 dX11_count_112 rfl kv_X11_164 (c_X10_greatest hq9) ⟨rfl, rfl⟩ ⟨Nat.le_of_ble_eq_true rfl, Nat.le_of_ble_eq_true rfl⟩ rfl rfl rfl [6] [0, 1, 2, 3, 4, 5] [0, 1, 2, 3, 4, 5, 6] rfl rfl rfl rfl (by decide) rfl rfl rfl rfl ⟨Nat.zero_le _, Nat.zero_le _⟩ (Nat.le_of_ble_eq_true rfl) ?_
          refine wa_closeR (ws := [wH dT a h_tape h_reader (a_friends 0) h_dusk (a_fam 0 0) h_coming (a_acts 0) (a_seen 0) h_pairs h_trials h_imageNow h_imageActs h_imageSeen v, wF dT a_friends v_friends, wRm dT v_fam.1 [0] a_fam v_fam.2.2, wA dT a_acts (pim a_actsfam v_actsfam.2.1) v_acts, wRw dT v_actsfam.1 a_actsfam v_actsfam.2.2, wS dT a_seen v_seen]) (ws' := [wH dT a h_tape h_reader (a_friends 0) h_dusk (a_fam 0 0) h_coming (a_acts 0) (a_seen 0) h_pairs h_trials h_imageNow h_imageActs h_imageSeen v, wF dT a_friends v_friends, wRm dT v_fam.1 [] a_fam v_fam.2.2, wA dT a_acts (pim a_actsfam v_actsfam.2.1) v_acts, wRw dT v_actsfam.1 a_actsfam v_actsfam.2.2, wS dT a_seen v_seen]) 2 0 g8 List.not_mem_nil rfl rfl ?_
          refine wa_ws (ws' := [wH dT a h_tape h_reader (a_friends 0) h_dusk (a_fam 0 0) h_coming (a_acts 0) (a_seen 0) h_pairs h_trials h_imageNow h_imageActs h_imageSeen v, wF dT a_friends v_friends, wRw dT v_fam.1 a_fam v_fam.2.2, wA dT a_acts (pim a_actsfam v_actsfam.2.1) v_acts, wRw dT v_actsfam.1 a_actsfam v_actsfam.2.2, wS dT a_seen v_seen]) rfl ?_
          cases hf
          exact wa_iret C dX11_count_115 rfl rfl
        · replace hf := ite_f hf c7
          by_cases c11 : p0 = 4
          · replace hf := ite_t hf c11
            refine wa_ts C 4 (115) 116 dX11_count_1 c11 (by decide) (by decide) rfl rfl ?_
            refine wa_aload_n C 0 117 dX11_count_116 rfl rfl ?_
            refine wa_get C 120 0 0 7 dX11_count_117 rfl iX11 q364 rfl (Nat.le_of_ble_eq_true rfl) rfl rfl rfl ?_
            obtain ⟨g12, hf⟩ := grd_ex hf
            replace g12 := of_decide_eq_true g12
            refine wa_openF 2 0 g12 List.not_mem_nil rfl ?_
            obtain ⟨q13, hq13, hf⟩ := bind_ex hf
            refine wa_callVi (b1 := 6) (q1 := 0) (ci := 10) (ws' := [wH dT a h_tape h_reader (a_friends 0) h_dusk (a_fam 0 0) h_coming (a_acts 0) (a_seen 0) h_pairs h_trials h_imageNow h_imageActs h_imageSeen v, wF dT a_friends v_friends, wRm dT v_fam.1 [0] a_fam v_fam.2.2, wA dT a_acts (pim a_actsfam v_actsfam.2.1) v_acts, wRw dT v_actsfam.1 a_actsfam v_actsfam.2.2, wS dT a_seen v_seen, wV dT (a_fam 0) (v_fam.2.2 0)]) (As := []) C 123 dX11_count_120 rfl kv_X11_167 (c_X10_alone hq13) ⟨rfl, rfl⟩ ⟨Nat.le_of_ble_eq_true rfl, Nat.le_of_ble_eq_true rfl⟩ rfl rfl rfl [6] [0, 1, 2, 3, 4, 5] [0, 1, 2, 3, 4, 5, 6] rfl rfl rfl rfl (by decide) rfl rfl rfl rfl ⟨Nat.zero_le _, Nat.zero_le _⟩ (Nat.le_of_ble_eq_true rfl) ?_
            refine wa_closeR (ws := [wH dT a h_tape h_reader (a_friends 0) h_dusk (a_fam 0 0) h_coming (a_acts 0) (a_seen 0) h_pairs h_trials h_imageNow h_imageActs h_imageSeen v, wF dT a_friends v_friends, wRm dT v_fam.1 [0] a_fam v_fam.2.2, wA dT a_acts (pim a_actsfam v_actsfam.2.1) v_acts, wRw dT v_actsfam.1 a_actsfam v_actsfam.2.2, wS dT a_seen v_seen]) (ws' := [wH dT a h_tape h_reader (a_friends 0) h_dusk (a_fam 0 0) h_coming (a_acts 0) (a_seen 0) h_pairs h_trials h_imageNow h_imageActs h_imageSeen v, wF dT a_friends v_friends, wRm dT v_fam.1 [] a_fam v_fam.2.2, wA dT a_acts (pim a_actsfam v_actsfam.2.1) v_acts, wRw dT v_actsfam.1 a_actsfam v_actsfam.2.2, wS dT a_seen v_seen]) 2 0 g12 List.not_mem_nil rfl rfl ?_
            refine wa_ws (ws' := [wH dT a h_tape h_reader (a_friends 0) h_dusk (a_fam 0 0) h_coming (a_acts 0) (a_seen 0) h_pairs h_trials h_imageNow h_imageActs h_imageSeen v, wF dT a_friends v_friends, wRw dT v_fam.1 a_fam v_fam.2.2, wA dT a_acts (pim a_actsfam v_actsfam.2.1) v_acts, wRw dT v_actsfam.1 a_actsfam v_actsfam.2.2, wS dT a_seen v_seen]) rfl ?_
            cases hf
            exact wa_iret C dX11_count_123 rfl rfl
          · replace hf := ite_f hf c11
            by_cases c15 : p0 = 5
            · replace hf := ite_t hf c15
              refine wa_ts C 5 (123) 124 dX11_count_1 c15 (by decide) (by decide) rfl rfl ?_
              refine wa_aload_n C 0 125 dX11_count_124 rfl rfl ?_
              refine wa_get C 128 0 0 7 dX11_count_125 rfl iX11 q364 rfl (Nat.le_of_ble_eq_true rfl) rfl rfl rfl ?_
              obtain ⟨g16, hf⟩ := grd_ex hf
              replace g16 := of_decide_eq_true g16
              refine wa_openF 2 0 g16 List.not_mem_nil rfl ?_
              obtain ⟨q17, hq17, hf⟩ := bind_ex hf
              refine wa_callVi (b1 := 6) (q1 := 0) (ci := 10) (ws' := [wH dT a h_tape h_reader (a_friends 0) h_dusk (a_fam 0 0) h_coming (a_acts 0) (a_seen 0) h_pairs h_trials h_imageNow h_imageActs h_imageSeen v, wF dT a_friends v_friends, wRm dT v_fam.1 [0] a_fam v_fam.2.2, wA dT a_acts (pim a_actsfam v_actsfam.2.1) v_acts, wRw dT v_actsfam.1 a_actsfam v_actsfam.2.2, wS dT a_seen v_seen, wV dT (a_fam 0) (v_fam.2.2 0)]) (As := []) C 131 dX11_count_128 rfl kv_X11_170 (c_X10_isStairs hq17) ⟨rfl, rfl⟩ ⟨Nat.le_of_ble_eq_true rfl, Nat.le_of_ble_eq_true rfl⟩ rfl rfl rfl [6] [0, 1, 2, 3, 4, 5] [0, 1, 2, 3, 4, 5, 6] rfl rfl rfl rfl (by decide) rfl rfl rfl rfl ⟨Nat.zero_le _, Nat.zero_le _⟩ (Nat.le_of_ble_eq_true rfl) ?_
              refine wa_closeR (ws := [wH dT a h_tape h_reader (a_friends 0) h_dusk (a_fam 0 0) h_coming (a_acts 0) (a_seen 0) h_pairs h_trials h_imageNow h_imageActs h_imageSeen v, wF dT a_friends v_friends, wRm dT v_fam.1 [0] a_fam v_fam.2.2, wA dT a_acts (pim a_actsfam v_actsfam.2.1) v_acts, wRw dT v_actsfam.1 a_actsfam v_actsfam.2.2, wS dT a_seen v_seen]) (ws' := [wH dT a h_tape h_reader (a_friends 0) h_dusk (a_fam 0 0) h_coming (a_acts 0) (a_seen 0) h_pairs h_trials h_imageNow h_imageActs h_imageSeen v, wF dT a_friends v_friends, wRm dT v_fam.1 [] a_fam v_fam.2.2, wA dT a_acts (pim a_actsfam v_actsfam.2.1) v_acts, wRw dT v_actsfam.1 a_actsfam v_actsfam.2.2, wS dT a_seen v_seen]) 2 0 g16 List.not_mem_nil rfl rfl ?_
              refine wa_ws (ws' := [wH dT a h_tape h_reader (a_friends 0) h_dusk (a_fam 0 0) h_coming (a_acts 0) (a_seen 0) h_pairs h_trials h_imageNow h_imageActs h_imageSeen v, wF dT a_friends v_friends, wRw dT v_fam.1 a_fam v_fam.2.2, wA dT a_acts (pim a_actsfam v_actsfam.2.1) v_acts, wRw dT v_actsfam.1 a_actsfam v_actsfam.2.2, wS dT a_seen v_seen]) rfl ?_
              refine wa_if_eq C 138 134 dX11_count_131 rfl rfl (fun c19 => ?_) (fun c19 => ?_)
              · replace hf := ite_t hf c19
                refine wa_iconst (v := 0) C 139 dX11_count_138 rfl rfl ?_
                cases hf
                exact wa_iret C dX11_count_139 rfl rfl
              · replace hf := ite_f hf c19
                refine wa_iconst (v := 1) C 135 dX11_count_134 rfl rfl ?_
                refine wa_goto C 139 dX11_count_135 rfl ?_
                cases hf
                exact wa_iret C dX11_count_139 rfl rfl
            · replace hf := ite_f hf c15
              by_cases c20 : p0 = 6
              · replace hf := ite_t hf c20
                refine wa_ts C 6 (139) 140 dX11_count_1 c20 (by decide) (by decide) rfl rfl ?_
                refine wa_aload_n C 0 141 dX11_count_140 rfl rfl ?_
                refine wa_get C 144 0 0 7 dX11_count_141 rfl iX11 q364 rfl (Nat.le_of_ble_eq_true rfl) rfl rfl rfl ?_
                obtain ⟨g21, hf⟩ := grd_ex hf
                replace g21 := of_decide_eq_true g21
                refine wa_openF 2 0 g21 List.not_mem_nil rfl ?_
                obtain ⟨q22, hq22, hf⟩ := bind_ex hf
                refine wa_callVi (b1 := 6) (q1 := 0) (ci := 10) (ws' := [wH dT a h_tape h_reader (a_friends 0) h_dusk (a_fam 0 0) h_coming (a_acts 0) (a_seen 0) h_pairs h_trials h_imageNow h_imageActs h_imageSeen v, wF dT a_friends v_friends, wRm dT v_fam.1 [0] a_fam v_fam.2.2, wA dT a_acts (pim a_actsfam v_actsfam.2.1) v_acts, wRw dT v_actsfam.1 a_actsfam v_actsfam.2.2, wS dT a_seen v_seen, wV dT (a_fam 0) (v_fam.2.2 0)]) (As := []) C 147 dX11_count_144 rfl kv_X11_174 (c_X10_pasts hq22) ⟨rfl, rfl⟩ ⟨Nat.le_of_ble_eq_true rfl, Nat.le_of_ble_eq_true rfl⟩ rfl rfl rfl [6] [0, 1, 2, 3, 4, 5] [0, 1, 2, 3, 4, 5, 6] rfl rfl rfl rfl (by decide) rfl rfl rfl rfl ⟨Nat.zero_le _, Nat.zero_le _⟩ (Nat.le_of_ble_eq_true rfl) ?_
                refine wa_closeR (ws := [wH dT a h_tape h_reader (a_friends 0) h_dusk (a_fam 0 0) h_coming (a_acts 0) (a_seen 0) h_pairs h_trials h_imageNow h_imageActs h_imageSeen v, wF dT a_friends v_friends, wRm dT v_fam.1 [0] a_fam v_fam.2.2, wA dT a_acts (pim a_actsfam v_actsfam.2.1) v_acts, wRw dT v_actsfam.1 a_actsfam v_actsfam.2.2, wS dT a_seen v_seen]) (ws' := [wH dT a h_tape h_reader (a_friends 0) h_dusk (a_fam 0 0) h_coming (a_acts 0) (a_seen 0) h_pairs h_trials h_imageNow h_imageActs h_imageSeen v, wF dT a_friends v_friends, wRm dT v_fam.1 [] a_fam v_fam.2.2, wA dT a_acts (pim a_actsfam v_actsfam.2.1) v_acts, wRw dT v_actsfam.1 a_actsfam v_actsfam.2.2, wS dT a_seen v_seen]) 2 0 g21 List.not_mem_nil rfl rfl ?_
                refine wa_ws (ws' := [wH dT a h_tape h_reader (a_friends 0) h_dusk (a_fam 0 0) h_coming (a_acts 0) (a_seen 0) h_pairs h_trials h_imageNow h_imageActs h_imageSeen v, wF dT a_friends v_friends, wRw dT v_fam.1 a_fam v_fam.2.2, wA dT a_acts (pim a_actsfam v_actsfam.2.1) v_acts, wRw dT v_actsfam.1 a_actsfam v_actsfam.2.2, wS dT a_seen v_seen]) rfl ?_
                cases hf
                exact wa_iret C dX11_count_147 rfl rfl
              · replace hf := ite_f hf c20
                by_cases c24 : p0 = 7
                · replace hf := ite_t hf c24
                  refine wa_ts C 7 (147) 148 dX11_count_1 c24 (by decide) (by decide) rfl rfl ?_
                  refine wa_aload_n C 0 149 dX11_count_148 rfl rfl ?_
                  refine wa_get C 152 0 0 7 dX11_count_149 rfl iX11 q364 rfl (Nat.le_of_ble_eq_true rfl) rfl rfl rfl ?_
                  obtain ⟨g25, hf⟩ := grd_ex hf
                  replace g25 := of_decide_eq_true g25
                  refine wa_openF 2 0 g25 List.not_mem_nil rfl ?_
                  obtain ⟨q26, hq26, hf⟩ := bind_ex hf
                  refine wa_callVi (b1 := 6) (q1 := 0) (ci := 10) (ws' := [wH dT a h_tape h_reader (a_friends 0) h_dusk (a_fam 0 0) h_coming (a_acts 0) (a_seen 0) h_pairs h_trials h_imageNow h_imageActs h_imageSeen v, wF dT a_friends v_friends, wRm dT v_fam.1 [0] a_fam v_fam.2.2, wA dT a_acts (pim a_actsfam v_actsfam.2.1) v_acts, wRw dT v_actsfam.1 a_actsfam v_actsfam.2.2, wS dT a_seen v_seen, wV dT (a_fam 0) (v_fam.2.2 0)]) (As := []) C 155 dX11_count_152 rfl kv_X11_174 (c_X10_pasts hq26) ⟨rfl, rfl⟩ ⟨Nat.le_of_ble_eq_true rfl, Nat.le_of_ble_eq_true rfl⟩ rfl rfl rfl [6] [0, 1, 2, 3, 4, 5] [0, 1, 2, 3, 4, 5, 6] rfl rfl rfl rfl (by decide) rfl rfl rfl rfl ⟨Nat.zero_le _, Nat.zero_le _⟩ (Nat.le_of_ble_eq_true rfl) ?_
                  refine wa_closeR (ws := [wH dT a h_tape h_reader (a_friends 0) h_dusk (a_fam 0 0) h_coming (a_acts 0) (a_seen 0) h_pairs h_trials h_imageNow h_imageActs h_imageSeen v, wF dT a_friends v_friends, wRm dT v_fam.1 [0] a_fam v_fam.2.2, wA dT a_acts (pim a_actsfam v_actsfam.2.1) v_acts, wRw dT v_actsfam.1 a_actsfam v_actsfam.2.2, wS dT a_seen v_seen]) (ws' := [wH dT a h_tape h_reader (a_friends 0) h_dusk (a_fam 0 0) h_coming (a_acts 0) (a_seen 0) h_pairs h_trials h_imageNow h_imageActs h_imageSeen v, wF dT a_friends v_friends, wRm dT v_fam.1 [] a_fam v_fam.2.2, wA dT a_acts (pim a_actsfam v_actsfam.2.1) v_acts, wRw dT v_actsfam.1 a_actsfam v_actsfam.2.2, wS dT a_seen v_seen]) 2 0 g25 List.not_mem_nil rfl rfl ?_
                  refine wa_ws (ws' := [wH dT a h_tape h_reader (a_friends 0) h_dusk (a_fam 0 0) h_coming (a_acts 0) (a_seen 0) h_pairs h_trials h_imageNow h_imageActs h_imageSeen v, wF dT a_friends v_friends, wRw dT v_fam.1 a_fam v_fam.2.2, wA dT a_acts (pim a_actsfam v_actsfam.2.1) v_acts, wRw dT v_actsfam.1 a_actsfam v_actsfam.2.2, wS dT a_seen v_seen]) rfl ?_
                  refine wa_if_ne C 162 158 dX11_count_155 rfl rfl (fun c28 => ?_) (fun c28 => ?_)
                  · replace hf := ite_f hf c28
                    refine wa_iconst (v := 0) C 163 dX11_count_162 rfl rfl ?_
                    cases hf
                    exact wa_iret C dX11_count_163 rfl rfl
                  · replace hf := ite_t hf c28
                    refine wa_iconst (v := 1) C 159 dX11_count_158 rfl rfl ?_
                    refine wa_goto C 163 dX11_count_159 rfl ?_
                    cases hf
                    exact wa_iret C dX11_count_163 rfl rfl
                · replace hf := ite_f hf c24
                  by_cases c29 : p0 = 8
                  · replace hf := ite_t hf c29
                    refine wa_ts C 8 (163) 164 dX11_count_1 c29 (by decide) (by decide) rfl rfl ?_
                    refine wa_aload_n C 0 165 dX11_count_164 rfl rfl ?_
                    refine wa_get C 168 0 0 5 dX11_count_165 rfl iX11 q362 rfl (Nat.le_of_ble_eq_true rfl) rfl rfl rfl ?_
                    refine wa_get C 171 1 0 0 dX11_count_168 rfl iX3 q126 rfl (Nat.le_of_ble_eq_true rfl) rfl rfl rfl ?_
                    cases hf
                    exact wa_iret C dX11_count_171 rfl rfl
                  · replace hf := ite_f hf c29
                    by_cases c30 : p0 = 9
                    · replace hf := ite_t hf c30
                      refine wa_ts C 9 (171) 172 dX11_count_1 c30 (by decide) (by decide) rfl rfl ?_
                      refine wa_aload_n C 0 173 dX11_count_172 rfl rfl ?_
                      refine wa_get C 176 0 0 5 dX11_count_173 rfl iX11 q362 rfl (Nat.le_of_ble_eq_true rfl) rfl rfl rfl ?_
                      refine wa_aload_n C 0 177 dX11_count_176 rfl rfl ?_
                      refine wa_get C 180 0 0 7 dX11_count_177 rfl iX11 q364 rfl (Nat.le_of_ble_eq_true rfl) rfl rfl rfl ?_
                      obtain ⟨g31, hf⟩ := grd_ex hf
                      replace g31 := of_decide_eq_true g31
                      refine wa_openF 2 0 g31 List.not_mem_nil rfl ?_
                      obtain ⟨q32, hq32, hf⟩ := bind_ex hf
                      refine wa_callVi (b1 := 1) (q1 := 0) (ci := 3) (ws' := [wH dT a h_tape h_reader (a_friends 0) h_dusk (a_fam 0 0) h_coming (a_acts 0) (a_seen 0) h_pairs h_trials h_imageNow h_imageActs h_imageSeen v, wF dT a_friends v_friends, wRm dT v_fam.1 [0] a_fam v_fam.2.2, wA dT a_acts (pim a_actsfam v_actsfam.2.1) v_acts, wRw dT v_actsfam.1 a_actsfam v_actsfam.2.2, wS dT a_seen v_seen, wV dT (a_fam 0) (v_fam.2.2 0)]) (As := [.ref (a_fam 0 0)]) C 183 dX11_count_180 rfl kv_X11_180 (c_X3_inOneHouse hq32) ⟨rfl, rfl⟩ ⟨Nat.le_of_ble_eq_true rfl, Nat.le_of_ble_eq_true rfl⟩ rfl rfl rfl [1, 6] [0, 2, 3, 4, 5] [0, 5, 1, 2, 3, 4, 6] rfl rfl rfl rfl (by decide) rfl rfl rfl rfl ⟨Nat.zero_le _, Nat.zero_le _⟩ (Nat.le_of_ble_eq_true rfl) ?_
                      refine wa_closeR (ws := [wH dT a h_tape h_reader (a_friends 0) h_dusk (a_fam 0 0) h_coming (a_acts 0) (a_seen 0) h_pairs h_trials h_imageNow h_imageActs h_imageSeen v, wF dT a_friends v_friends, wRm dT v_fam.1 [0] a_fam v_fam.2.2, wA dT a_acts (pim a_actsfam v_actsfam.2.1) v_acts, wRw dT v_actsfam.1 a_actsfam v_actsfam.2.2, wS dT a_seen v_seen]) (ws' := [wH dT a h_tape h_reader (a_friends 0) h_dusk (a_fam 0 0) h_coming (a_acts 0) (a_seen 0) h_pairs h_trials h_imageNow h_imageActs h_imageSeen v, wF dT a_friends v_friends, wRm dT v_fam.1 [] a_fam v_fam.2.2, wA dT a_acts (pim a_actsfam v_actsfam.2.1) v_acts, wRw dT v_actsfam.1 a_actsfam v_actsfam.2.2, wS dT a_seen v_seen]) 2 0 g31 List.not_mem_nil rfl rfl ?_
                      refine wa_ws (ws' := [wH dT a h_tape h_reader (a_friends 0) h_dusk (a_fam 0 0) h_coming (a_acts 0) (a_seen 0) h_pairs h_trials h_imageNow h_imageActs h_imageSeen v, wF dT a_friends v_friends, wRw dT v_fam.1 a_fam v_fam.2.2, wA dT a_acts (pim a_actsfam v_actsfam.2.1) v_acts, wRw dT v_actsfam.1 a_actsfam v_actsfam.2.2, wS dT a_seen v_seen]) rfl ?_
                      cases hf
                      exact wa_iret C dX11_count_183 rfl rfl
                    · replace hf := ite_f hf c30
                      by_cases c34 : p0 = 10
                      · replace hf := ite_t hf c34
                        refine wa_ts C 10 (183) 184 dX11_count_1 c34 (by decide) (by decide) rfl rfl ?_
                        refine wa_aload_n C 0 185 dX11_count_184 rfl rfl ?_
                        refine wa_get C 188 0 0 5 dX11_count_185 rfl iX11 q362 rfl (Nat.le_of_ble_eq_true rfl) rfl rfl rfl ?_
                        refine wa_aload_n C 0 189 dX11_count_188 rfl rfl ?_
                        refine wa_get C 192 0 0 7 dX11_count_189 rfl iX11 q364 rfl (Nat.le_of_ble_eq_true rfl) rfl rfl rfl ?_
                        obtain ⟨g35, hf⟩ := grd_ex hf
                        refine wa_openF 2 0 (of_decide_eq_true g35) List.not_mem_nil rfl ?_
                        refine wa_get C 195 6 0 0 dX11_count_192 rfl iX10 q53 rfl (Nat.le_of_ble_eq_true rfl) rfl rfl rfl ?_
                        refine wa_closeR (ws := [wH dT a h_tape h_reader (a_friends 0) h_dusk (a_fam 0 0) h_coming (a_acts 0) (a_seen 0) h_pairs h_trials h_imageNow h_imageActs h_imageSeen v, wF dT a_friends v_friends, wRm dT v_fam.1 [0] a_fam v_fam.2.2, wA dT a_acts (pim a_actsfam v_actsfam.2.1) v_acts, wRw dT v_actsfam.1 a_actsfam v_actsfam.2.2, wS dT a_seen v_seen]) (ws' := [wH dT a h_tape h_reader (a_friends 0) h_dusk (a_fam 0 0) h_coming (a_acts 0) (a_seen 0) h_pairs h_trials h_imageNow h_imageActs h_imageSeen v, wF dT a_friends v_friends, wRw dT v_fam.1 a_fam v_fam.2.2, wA dT a_acts (pim a_actsfam v_actsfam.2.1) v_acts, wRw dT v_actsfam.1 a_actsfam v_actsfam.2.2, wS dT a_seen v_seen]) 2 0 (of_decide_eq_true g35) List.not_mem_nil rfl rfl ?_
                        obtain ⟨q36, hq36, hf⟩ := bind_ex hf
                        refine wa_callVi (b1 := 1) (q1 := 0) (ci := 3) (ws' := [wH dT a h_tape h_reader (a_friends 0) h_dusk (a_fam 0 0) h_coming (a_acts 0) (a_seen 0) h_pairs h_trials h_imageNow h_imageActs h_imageSeen v, wF dT a_friends v_friends, wRw dT v_fam.1 a_fam v_fam.2.2, wA dT a_acts (pim a_actsfam v_actsfam.2.1) v_acts, wRw dT v_actsfam.1 a_actsfam v_actsfam.2.2, wS dT a_seen v_seen]) (As := [.int ((v_fam.2.2 0).1 0)]) C 198 dX11_count_195 rfl kv_X11_184 (c_X3_toTell hq36) ⟨rfl, rfl⟩ ⟨Nat.le_of_ble_eq_true rfl, Nat.le_of_ble_eq_true rfl⟩ rfl rfl rfl [1] [0, 2, 3, 4, 5] [0, 5, 1, 2, 3, 4] rfl rfl rfl rfl (by decide) rfl rfl rfl rfl ⟨Nat.zero_le _, Nat.zero_le _⟩ (Nat.le_of_ble_eq_true rfl) ?_
                        cases hf
                        exact wa_iret C dX11_count_198 rfl rfl
                      · replace hf := ite_f hf c34
                        by_cases c38 : p0 = 11
                        · replace hf := ite_t hf c38
                          refine wa_ts C 11 (198) 199 dX11_count_1 c38 (by decide) (by decide) rfl rfl ?_
                          refine wa_aload_n C 0 200 dX11_count_199 rfl rfl ?_
                          refine wa_get C 203 0 0 9 dX11_count_200 rfl iX11 q366 rfl (Nat.le_of_ble_eq_true rfl) rfl rfl rfl ?_
                          refine wa_get C 206 3 0 0 dX11_count_203 rfl iX0 q280 rfl (Nat.le_of_ble_eq_true rfl) rfl rfl rfl ?_
                          cases hf
                          exact wa_iret C dX11_count_206 rfl rfl
                        · replace hf := ite_f hf c38
                          by_cases c39 : p0 = 12
                          · replace hf := ite_t hf c39
                            refine wa_ts C 12 (206) 207 dX11_count_1 c39 (by decide) (by decide) rfl rfl ?_
                            refine wa_aload_n C 0 208 dX11_count_207 rfl rfl ?_
                            refine wa_get C 211 0 0 10 dX11_count_208 rfl iX11 q367 rfl (Nat.le_of_ble_eq_true rfl) rfl rfl rfl ?_
                            refine wa_get C 214 5 0 0 dX11_count_211 rfl iX8 q294 rfl (Nat.le_of_ble_eq_true rfl) rfl rfl rfl ?_
                            cases hf
                            exact wa_iret C dX11_count_214 rfl rfl
                          · replace hf := ite_f hf c39
                            by_cases c40 : p0 = 13
                            · replace hf := ite_t hf c40
                              refine wa_ts C 13 (214) 215 dX11_count_1 c40 (by decide) (by decide) rfl rfl ?_
                              refine wa_aload_n C 0 216 dX11_count_215 rfl rfl ?_
                              refine wa_get C 219 0 0 1 dX11_count_216 rfl iX11 q358 rfl (Nat.le_of_ble_eq_true rfl) rfl rfl rfl ?_
                              cases hf
                              exact wa_iret C dX11_count_219 rfl rfl
                            · replace hf := ite_f hf c40
                              by_cases c41 : p0 = 14
                              · replace hf := ite_t hf c41
                                refine wa_ts C 14 (219) 220 dX11_count_1 c41 (by decide) (by decide) rfl rfl ?_
                                refine wa_aload_n C 0 221 dX11_count_220 rfl rfl ?_
                                refine wa_get C 224 0 0 3 dX11_count_221 rfl iX11 q360 rfl (Nat.le_of_ble_eq_true rfl) rfl rfl rfl ?_
                                refine wa_iconst (v := 0) C 225 dX11_count_224 rfl rfl ?_
                                obtain ⟨g42, hf⟩ := grd_ex hf
                                refine wa_iald C 226 0 1 dX11_count_225 rfl rfl rfl (vi_in g42) ?_
                                cases hf
                                exact wa_iret C dX11_count_226 rfl rfl
                              · replace hf := ite_f hf c41
                                by_cases c43 : p0 = 15
                                · replace hf := ite_t hf c43
                                  refine wa_ts C 15 (226) 227 dX11_count_1 c43 (by decide) (by decide) rfl rfl ?_
                                  refine wa_aload_n C 0 228 dX11_count_227 rfl rfl ?_
                                  refine wa_get C 231 0 0 3 dX11_count_228 rfl iX11 q360 rfl (Nat.le_of_ble_eq_true rfl) rfl rfl rfl ?_
                                  refine wa_iconst (v := 1) C 232 dX11_count_231 rfl rfl ?_
                                  obtain ⟨g44, hf⟩ := grd_ex hf
                                  refine wa_iald C 233 0 1 dX11_count_232 rfl rfl rfl (vi_in g44) ?_
                                  cases hf
                                  exact wa_iret C dX11_count_233 rfl rfl
                                · replace hf := ite_f hf c43
                                  by_cases c45 : p0 = 16
                                  · replace hf := ite_t hf c45
                                    refine wa_ts C 16 (233) 234 dX11_count_1 c45 (by decide) (by decide) rfl rfl ?_
                                    refine wa_aload_n C 0 235 dX11_count_234 rfl rfl ?_
                                    refine wa_get C 238 0 0 3 dX11_count_235 rfl iX11 q360 rfl (Nat.le_of_ble_eq_true rfl) rfl rfl rfl ?_
                                    refine wa_iconst (v := 2) C 239 dX11_count_238 rfl rfl ?_
                                    obtain ⟨g46, hf⟩ := grd_ex hf
                                    refine wa_iald C 240 0 1 dX11_count_239 rfl rfl rfl (vi_in g46) ?_
                                    cases hf
                                    exact wa_iret C dX11_count_240 rfl rfl
                                  · replace hf := ite_f hf c45
                                    refine wa_tsd C 241 dX11_count_1 (ts_out (0) 17 (nts_s (nts_s (nts_s (nts_s (nts_s (nts_s (nts_s (nts_s (nts_s (nts_s (nts_s (nts_s (nts_s (nts_s (nts_s (nts_s (nts_s nts_0 rfl c1) rfl c3) rfl c5) rfl c7) rfl c11) rfl c15) rfl c20) rfl c24) rfl c29) rfl c30) rfl c34) rfl c38) rfl c39) rfl c40) rfl c41) rfl c43) rfl c45)) rfl ?_
                                    cases hf
