theorem kv_L_7 : KV "NewHousesLaw" 7 yX11_village cX11_village 3 (some .int) 1 := KV.mk q615 q616 q617 q1 q618 ⟨by decide, by decide, by decide +kernel⟩
def f_L_village (v0 : Ob) (v0_tape : (Nat → Int32)) (v0_reader : Ob) (v0_rvillage : Ob) (v0_rfriends : Ob) (v0_rpicks : Ob) (v0_rkeeps : Ob) (v0_friends : Ob) (v0_coming : CS) (v0_dusk : Ob) (v0_dpicks : Ob) (v0_dkeeps : Ob) (v0_known : Ob) (v0_fam : FS) (v0_acts : Ob) (v0_actsfam : FS) (v0_seen : Ob) (u2 : (Nat → Int64)) (p1 : Int32) : Option (Int32 × Ob × Ob × Ob × Ob × Ob × Ob × Ob × CS × Ob × Ob × FS × Ob × Ob × (Nat → Int64)) := (f_X11_village v0 v0_tape v0_reader v0_rvillage v0_rfriends v0_rpicks v0_rkeeps v0_friends v0_coming v0_dusk v0_dpicks v0_dkeeps v0_known v0_fam v0_acts v0_actsfam v0_seen p1).bind (fun q1 => grd (vi (0 : Int32) 1) (bnd (vp_updL u2 ((0 : Int32)).toNatClampNeg q1.1.toInt64) (fun y4 => some ((0 : Int32), q1.2.1, q1.2.2.1, q1.2.2.2.1, q1.2.2.2.2.1, q1.2.2.2.2.2.1, q1.2.2.2.2.2.2.1, q1.2.2.2.2.2.2.2.1, q1.2.2.2.2.2.2.2.2.1, q1.2.2.2.2.2.2.2.2.2.1, q1.2.2.2.2.2.2.2.2.2.2.1, q1.2.2.2.2.2.2.2.2.2.2.2.1, q1.2.2.2.2.2.2.2.2.2.2.2.2.1, q1.2.2.2.2.2.2.2.2.2.2.2.2.2, y4))))
set_option maxRecDepth 20000 in
theorem c_L_village {l : Launch} {D : va_G} {dT : Nat → ClassId} {aK aV : Nat → Nat} {a0 : Nat → Nat} {bt : Nat} {a0_reader : Nat → Nat} {a0_rvillage : Nat → Nat} {a0_rfriends : Nat → Nat} {a0_rpicks : Nat → Nat} {a0_rkeeps : Nat → Nat} {a0_friends : Nat → Nat} {a0_coming : Nat → Nat} {a0_dusk : Nat → Nat} {a0_dpicks : Nat → Nat} {a0_dkeeps : Nat → Nat} {a0_known : Nat → Nat} {a0_fam : Nat → Nat → Nat} {a0_acts : Nat → Nat} {a0_actsfam : Nat → Nat → Nat} {a0_seen : Nat → Nat} {b2 : Nat} {h_pairs : Nat} {h_trials : Nat} {h_imageNow : Nat} {h_imageActs : Nat} {h_imageSeen : Nat} {tx : Nat} {v0 : Ob} {v0_tape : (Nat → Int32)} {v0_reader : Ob} {v0_rvillage : Ob} {v0_rfriends : Ob} {v0_rpicks : Ob} {v0_rkeeps : Ob} {v0_friends : Ob} {v0_coming : CS} {v0_dusk : Ob} {v0_dpicks : Ob} {v0_dkeeps : Ob} {v0_known : Ob} {v0_fam : FS} {v0_acts : Ob} {v0_actsfam : FS} {v0_seen : Ob} {u2 : (Nat → Int64)} {p1 : Int32} {res : Int32 × Ob × Ob × Ob × Ob × Ob × Ob × Ob × CS × Ob × Ob × FS × Ob × Ob × (Nat → Int64)} (hf : f_L_village v0 v0_tape v0_reader v0_rvillage v0_rfriends v0_rpicks v0_rkeeps v0_friends v0_coming v0_dusk v0_dpicks v0_dkeeps v0_known v0_fam v0_acts v0_actsfam v0_seen u2 p1 = some res) : CWi aK aV l yL_village cL_village 4 [((0 : Nat), (9 : Nat), (12 : Nat), (13 : Nat))] ({ frames := 109, cells := 0, slots := 0, locals := 4913 } : Room) D dT [.ref (a0 0), .int p1, .ref b2] ([wH dT a0 bt (a0_reader 0) (a0_friends 0) (a0_dusk 0) (a0_fam 0 0) (a0_coming 0) (a0_acts 0) (a0_seen 0) h_pairs h_trials h_imageNow h_imageActs h_imageSeen v0, [(bt, .inl (dT 2, 700, .inl v0_tape))], wRd dT a0_reader (a0_rvillage 0) (a0_rfriends 0) (a0_rpicks 0) (a0_rkeeps 0) tx v0_reader, wV dT a0_rvillage v0_rvillage, wF dT a0_rfriends v0_rfriends, wR dT a0_rpicks v0_rpicks, wR dT a0_rkeeps v0_rkeeps, wF dT a0_friends v0_friends, wC dT a0_coming (a0_dusk 0) (a0_fam 0 0) (a0_known 0) (pim a0_fam v0_fam.2.1) v0_coming, wD dT a0_dusk (a0_dpicks 0) (a0_dkeeps 0) v0_dusk, wR dT a0_dpicks v0_dpicks, wR dT a0_dkeeps v0_dkeeps, wK dT a0_known v0_known, wRw dT v0_fam.1 a0_fam v0_fam.2.2, wA dT a0_acts (pim a0_actsfam v0_actsfam.2.1) v0_acts, wRw dT v0_actsfam.1 a0_actsfam v0_actsfam.2.2, wS dT a0_seen v0_seen, [(b2, .inl (dT 1, 1, .inr (.inl u2)))]]) (fun _ : Unit => True) (fun _ : Unit => [wH dT a0 bt (a0_reader 0) (a0_friends 0) (a0_dusk 0) (a0_fam 0 0) (a0_coming 0) (a0_acts 0) (a0_seen 0) h_pairs h_trials h_imageNow h_imageActs h_imageSeen res.2.1, [(bt, .inl (dT 2, 700, .inl v0_tape))], wRd dT a0_reader (a0_rvillage 0) (a0_rfriends 0) (a0_rpicks 0) (a0_rkeeps 0) bt res.2.2.1, wV dT a0_rvillage res.2.2.2.1, wF dT a0_rfriends res.2.2.2.2.1, wR dT a0_rpicks res.2.2.2.2.2.1, wR dT a0_rkeeps res.2.2.2.2.2.2.1, wF dT a0_friends res.2.2.2.2.2.2.2.1, wC dT a0_coming (a0_dusk 0) (a0_fam 0 0) (a0_known 0) (pim a0_fam res.2.2.2.2.2.2.2.2.2.2.2.1.2.1) res.2.2.2.2.2.2.2.2.1, wD dT a0_dusk (a0_dpicks 0) (a0_dkeeps 0) v0_dusk, wR dT a0_dpicks res.2.2.2.2.2.2.2.2.2.1, wR dT a0_dkeeps res.2.2.2.2.2.2.2.2.2.2.1, wK dT a0_known v0_known, wRw dT res.2.2.2.2.2.2.2.2.2.2.2.1.1 a0_fam res.2.2.2.2.2.2.2.2.2.2.2.1.2.2, wA dT a0_acts (pim a0_actsfam v0_actsfam.2.1) res.2.2.2.2.2.2.2.2.2.2.2.2.1, wRw dT v0_actsfam.1 a0_actsfam v0_actsfam.2.2, wS dT a0_seen res.2.2.2.2.2.2.2.2.2.2.2.2.2.1, [(b2, .inl (dT 1, 1, .inr (.inl res.2.2.2.2.2.2.2.2.2.2.2.2.2.2)))]]) res.1 0 0 := by
  refine CWi.of (by decide) (Nat.le_of_ble_eq_true rfl) rfl ?_
  intro p e s m args below meth c A C EX htab
  have E := EX.1
  unfold f_L_village at hf
  refine wa_aload_n C 2 1 dL_village_0 rfl rfl ?_
  refine wa_iconst (v := 0) C 2 dL_village_1 rfl rfl ?_
  refine wa_aload_n C 0 3 dL_village_2 rfl rfl ?_
  refine wa_iload_n C 1 4 dL_village_3 rfl rfl ?_
  obtain ⟨q1, hq1, hf⟩ := bind_ex hf
  refine we_callVi (ws' := [wH dT a0 bt (a0_reader 0) (a0_friends 0) (a0_dusk 0) (a0_fam 0 0) (a0_coming 0) (a0_acts 0) (a0_seen 0) h_pairs h_trials h_imageNow h_imageActs h_imageSeen q1.2.1, [(bt, .inl (dT 2, 700, .inl v0_tape))], wRd dT a0_reader (a0_rvillage 0) (a0_rfriends 0) (a0_rpicks 0) (a0_rkeeps 0) bt q1.2.2.1, wV dT a0_rvillage q1.2.2.2.1, wF dT a0_rfriends q1.2.2.2.2.1, wR dT a0_rpicks q1.2.2.2.2.2.1, wR dT a0_rkeeps q1.2.2.2.2.2.2.1, wF dT a0_friends q1.2.2.2.2.2.2.2.1, wC dT a0_coming (a0_dusk 0) (a0_fam 0 0) (a0_known 0) (pim a0_fam q1.2.2.2.2.2.2.2.2.2.2.2.1.2.1) q1.2.2.2.2.2.2.2.2.1, wD dT a0_dusk (a0_dpicks 0) (a0_dkeeps 0) v0_dusk, wR dT a0_dpicks q1.2.2.2.2.2.2.2.2.2.1, wR dT a0_dkeeps q1.2.2.2.2.2.2.2.2.2.2.1, wK dT a0_known v0_known, wRw dT q1.2.2.2.2.2.2.2.2.2.2.2.1.1 a0_fam q1.2.2.2.2.2.2.2.2.2.2.2.1.2.2, wA dT a0_acts (pim a0_actsfam v0_actsfam.2.1) q1.2.2.2.2.2.2.2.2.2.2.2.2.1, wRw dT v0_actsfam.1 a0_actsfam v0_actsfam.2.2, wS dT a0_seen q1.2.2.2.2.2.2.2.2.2.2.2.2.2, [(b2, .inl (dT 1, 1, .inr (.inl u2)))]]) (As := [.int p1]) C E 7 dL_village_4 rfl kv_L_7 (c_X11_village hq1) ⟨rfl, rfl⟩ ⟨Nat.le_of_ble_eq_true rfl, Nat.le_of_ble_eq_true rfl⟩ (rv_obj (ci := 11) C 0 0 rfl rfl rfl) [0, 1, 2, 3, 4, 5, 6, 7, 8, 9, 10, 11, 12, 13, 14, 15, 16] [17] [1, 2, 3, 4, 5, 6, 7, 8, 9, 10, 11, 12, 13, 14, 15, 16, 17, 0] rfl rfl rfl rfl (by decide) rfl rfl rfl rfl ⟨Nat.zero_le _, Nat.zero_le _⟩ (Nat.le_of_ble_eq_true rfl) ?_
  refine wa_i2l C 8 dL_village_7 rfl ?_
  obtain ⟨g3, hf⟩ := grd_ex hf
  obtain ⟨y4, ey4, hf⟩ := bnd_ex hf
  refine wa_last (ws' := [wH dT a0 bt (a0_reader 0) (a0_friends 0) (a0_dusk 0) (a0_fam 0 0) (a0_coming 0) (a0_acts 0) (a0_seen 0) h_pairs h_trials h_imageNow h_imageActs h_imageSeen q1.2.1, [(bt, .inl (dT 2, 700, .inl v0_tape))], wRd dT a0_reader (a0_rvillage 0) (a0_rfriends 0) (a0_rpicks 0) (a0_rkeeps 0) bt q1.2.2.1, wV dT a0_rvillage q1.2.2.2.1, wF dT a0_rfriends q1.2.2.2.2.1, wR dT a0_rpicks q1.2.2.2.2.2.1, wR dT a0_rkeeps q1.2.2.2.2.2.2.1, wF dT a0_friends q1.2.2.2.2.2.2.2.1, wC dT a0_coming (a0_dusk 0) (a0_fam 0 0) (a0_known 0) (pim a0_fam q1.2.2.2.2.2.2.2.2.2.2.2.1.2.1) q1.2.2.2.2.2.2.2.2.1, wD dT a0_dusk (a0_dpicks 0) (a0_dkeeps 0) v0_dusk, wR dT a0_dpicks q1.2.2.2.2.2.2.2.2.2.1, wR dT a0_dkeeps q1.2.2.2.2.2.2.2.2.2.2.1, wK dT a0_known v0_known, wRw dT q1.2.2.2.2.2.2.2.2.2.2.2.1.1 a0_fam q1.2.2.2.2.2.2.2.2.2.2.2.1.2.2, wA dT a0_acts (pim a0_actsfam v0_actsfam.2.1) q1.2.2.2.2.2.2.2.2.2.2.2.2.1, wRw dT v0_actsfam.1 a0_actsfam v0_actsfam.2.2, wS dT a0_seen q1.2.2.2.2.2.2.2.2.2.2.2.2.2, [(b2, .inl (dT 1, 1, .inr (.inl y4)))]]) C 9 17 0 dL_village_8 rfl rfl rfl (vi_in g3) (by rw [ey4]; rfl) ?_
  refine wa_goto C 15 dL_village_9 rfl ?_
  refine wa_iconst (v := 0) C 16 dL_village_15 rfl rfl ?_
  cases hf
  exact wa_irm C () dL_village_16 trivial rfl rfl (Nat.zero_le _) (Nat.zero_le _)
theorem kv_L_15 : KV "NewHousesLaw" 15 yX11_count cX11_count 2 (some .int) 1 := KV.mk q936 q937 q938 q1 q939 ⟨by decide, by decide, by decide +kernel⟩
def f_L_count (v0 : Ob) (v0_friends : Ob) (v0_fam : FS) (v0_acts : Ob) (v0_actsfam : FS) (v0_seen : Ob) (u2 : (Nat → Int64)) (p1 : Int32) : Option (Int32 × (Nat → Int64)) := (f_X11_count v0 v0_friends v0_fam v0_acts v0_actsfam v0_seen p1).bind (fun q1 => grd (vi (0 : Int32) 1) (bnd (vp_updL u2 ((0 : Int32)).toNatClampNeg q1.toInt64) (fun y4 => some ((0 : Int32), y4))))
set_option maxRecDepth 20000 in
theorem c_L_count {l : Launch} {D : va_G} {dT : Nat → ClassId} {aK aV : Nat → Nat} {a0 : Nat → Nat} {a0_friends : Nat → Nat} {a0_fam : Nat → Nat → Nat} {a0_acts : Nat → Nat} {a0_actsfam : Nat → Nat → Nat} {a0_seen : Nat → Nat} {b2 : Nat} {h_tape : Nat} {h_reader : Nat} {h_dusk : Nat} {h_coming : Nat} {h_pairs : Nat} {h_trials : Nat} {h_imageNow : Nat} {h_imageActs : Nat} {h_imageSeen : Nat} {v0 : Ob} {v0_friends : Ob} {v0_fam : FS} {v0_acts : Ob} {v0_actsfam : FS} {v0_seen : Ob} {u2 : (Nat → Int64)} {p1 : Int32} {res : Int32 × (Nat → Int64)} (hf : f_L_count v0 v0_friends v0_fam v0_acts v0_actsfam v0_seen u2 p1 = some res) : CWi aK aV l yL_count cL_count 4 [((0 : Nat), (9 : Nat), (12 : Nat), (18 : Nat))] ({ frames := 5, cells := 0, slots := 0, locals := 103 } : Room) D dT [.ref (a0 0), .int p1, .ref b2] ([wH dT a0 h_tape h_reader (a0_friends 0) h_dusk (a0_fam 0 0) h_coming (a0_acts 0) (a0_seen 0) h_pairs h_trials h_imageNow h_imageActs h_imageSeen v0, wF dT a0_friends v0_friends, wRw dT v0_fam.1 a0_fam v0_fam.2.2, wA dT a0_acts (pim a0_actsfam v0_actsfam.2.1) v0_acts, wRw dT v0_actsfam.1 a0_actsfam v0_actsfam.2.2, wS dT a0_seen v0_seen, [(b2, .inl (dT 1, 1, .inr (.inl u2)))]]) (fun _ : Unit => True) (fun _ : Unit => [wH dT a0 h_tape h_reader (a0_friends 0) h_dusk (a0_fam 0 0) h_coming (a0_acts 0) (a0_seen 0) h_pairs h_trials h_imageNow h_imageActs h_imageSeen v0, wF dT a0_friends v0_friends, wRw dT v0_fam.1 a0_fam v0_fam.2.2, wA dT a0_acts (pim a0_actsfam v0_actsfam.2.1) v0_acts, wRw dT v0_actsfam.1 a0_actsfam v0_actsfam.2.2, wS dT a0_seen v0_seen, [(b2, .inl (dT 1, 1, .inr (.inl res.2)))]]) res.1 0 0 := by
  refine CWi.of (by decide) (Nat.le_of_ble_eq_true rfl) rfl ?_
  intro p e s m args below meth c A C EX htab
  have E := EX.1
  unfold f_L_count at hf
  refine wa_aload_n C 2 1 dL_count_0 rfl rfl ?_
  refine wa_iconst (v := 0) C 2 dL_count_1 rfl rfl ?_
  refine wa_aload_n C 0 3 dL_count_2 rfl rfl ?_
  refine wa_iload_n C 1 4 dL_count_3 rfl rfl ?_
  obtain ⟨q1, hq1, hf⟩ := bind_ex hf
  refine wa_callVi (b1 := 0) (q1 := 0) (ci := 11) (ws' := [wH dT a0 h_tape h_reader (a0_friends 0) h_dusk (a0_fam 0 0) h_coming (a0_acts 0) (a0_seen 0) h_pairs h_trials h_imageNow h_imageActs h_imageSeen v0, wF dT a0_friends v0_friends, wRw dT v0_fam.1 a0_fam v0_fam.2.2, wA dT a0_acts (pim a0_actsfam v0_actsfam.2.1) v0_acts, wRw dT v0_actsfam.1 a0_actsfam v0_actsfam.2.2, wS dT a0_seen v0_seen, [(b2, .inl (dT 1, 1, .inr (.inl u2)))]]) (As := [.int p1]) C 7 dL_count_4 rfl kv_L_15 (c_X11_count hq1) ⟨rfl, rfl⟩ ⟨Nat.le_of_ble_eq_true rfl, Nat.le_of_ble_eq_true rfl⟩ rfl rfl rfl [0, 1, 2, 3, 4, 5] [6] [1, 2, 3, 4, 5, 6, 0] rfl rfl rfl rfl (by decide) rfl rfl rfl rfl ⟨Nat.zero_le _, Nat.zero_le _⟩ (Nat.le_of_ble_eq_true rfl) ?_
  refine wa_i2l C 8 dL_count_7 rfl ?_
  obtain ⟨g3, hf⟩ := grd_ex hf
  obtain ⟨y4, ey4, hf⟩ := bnd_ex hf
  refine wa_last (ws' := [wH dT a0 h_tape h_reader (a0_friends 0) h_dusk (a0_fam 0 0) h_coming (a0_acts 0) (a0_seen 0) h_pairs h_trials h_imageNow h_imageActs h_imageSeen v0, wF dT a0_friends v0_friends, wRw dT v0_fam.1 a0_fam v0_fam.2.2, wA dT a0_acts (pim a0_actsfam v0_actsfam.2.1) v0_acts, wRw dT v0_actsfam.1 a0_actsfam v0_actsfam.2.2, wS dT a0_seen v0_seen, [(b2, .inl (dT 1, 1, .inr (.inl y4)))]]) C 9 6 0 dL_count_8 rfl rfl rfl (vi_in g3) (by rw [ey4]; rfl) ?_
  refine wa_goto C 15 dL_count_9 rfl ?_
  refine wa_iconst (v := 0) C 16 dL_count_15 rfl rfl ?_
  cases hf
  exact wa_irm C () dL_count_16 trivial rfl rfl (Nat.zero_le _) (Nat.zero_le _)
theorem kv_L_20 : KV "NewHousesLaw" 20 yX11_person cX11_person 3 (some .int) 2 := KV.mk q1003 q1004 q1005 q1 q1006 ⟨by decide, by decide, by decide +kernel⟩
def f_L_person (v0 : Ob) (v0_friends : Ob) (v0_dusk : Ob) (v0_dpicks : Ob) (v0_dkeeps : Ob) (v0_fam : FS) (v0_pairs : Ob) (u3 : (Nat → Int64)) (p1 : Int32) (p2 : Int32) : Option (Int32 × Ob × Ob × Ob × Ob × (Nat → Int64)) := (f_X11_person v0 v0_friends v0_dusk v0_dpicks v0_dkeeps v0_fam v0_pairs p1 p2).bind (fun q1 => grd (vi (0 : Int32) 1) (bnd (vp_updL u3 ((0 : Int32)).toNatClampNeg q1.1.toInt64) (fun y4 => some ((0 : Int32), q1.2.1, q1.2.2.1, q1.2.2.2.1, q1.2.2.2.2, y4))))
set_option maxRecDepth 20000 in
theorem c_L_person {l : Launch} {D : va_G} {dT : Nat → ClassId} {aK aV : Nat → Nat} {a0 : Nat → Nat} {a0_friends : Nat → Nat} {a0_dusk : Nat → Nat} {a0_dpicks : Nat → Nat} {a0_dkeeps : Nat → Nat} {a0_fam : Nat → Nat → Nat} {a0_pairs : Nat → Nat} {b3 : Nat} {h_tape : Nat} {h_reader : Nat} {h_coming : Nat} {h_acts : Nat} {h_seen : Nat} {h_trials : Nat} {h_imageNow : Nat} {h_imageActs : Nat} {h_imageSeen : Nat} {v0 : Ob} {v0_friends : Ob} {v0_dusk : Ob} {v0_dpicks : Ob} {v0_dkeeps : Ob} {v0_fam : FS} {v0_pairs : Ob} {u3 : (Nat → Int64)} {p1 : Int32} {p2 : Int32} {res : Int32 × Ob × Ob × Ob × Ob × (Nat → Int64)} (hf : f_L_person v0 v0_friends v0_dusk v0_dpicks v0_dkeeps v0_fam v0_pairs u3 p1 p2 = some res) : CWi aK aV l yL_person cL_person 5 [((0 : Nat), (10 : Nat), (13 : Nat), (18 : Nat))] ({ frames := 7, cells := 0, slots := 0, locals := 155 } : Room) D dT [.ref (a0 0), .int p1, .int p2, .ref b3] ([wH dT a0 h_tape h_reader (a0_friends 0) (a0_dusk 0) (a0_fam 0 0) h_coming h_acts h_seen (a0_pairs 0) h_trials h_imageNow h_imageActs h_imageSeen v0, wF dT a0_friends v0_friends, wD dT a0_dusk (a0_dpicks 0) (a0_dkeeps 0) v0_dusk, wR dT a0_dpicks v0_dpicks, wR dT a0_dkeeps v0_dkeeps, wRw dT v0_fam.1 a0_fam v0_fam.2.2, wP dT a0_pairs v0_pairs, [(b3, .inl (dT 1, 1, .inr (.inl u3)))]]) (fun _ : Unit => True) (fun _ : Unit => [wH dT a0 h_tape h_reader (a0_friends 0) (a0_dusk 0) (a0_fam 0 0) h_coming h_acts h_seen (a0_pairs 0) h_trials h_imageNow h_imageActs h_imageSeen v0, wF dT a0_friends v0_friends, wD dT a0_dusk (a0_dpicks 0) (a0_dkeeps 0) res.2.1, wR dT a0_dpicks res.2.2.1, wR dT a0_dkeeps res.2.2.2.1, wRw dT v0_fam.1 a0_fam v0_fam.2.2, wP dT a0_pairs res.2.2.2.2.1, [(b3, .inl (dT 1, 1, .inr (.inl res.2.2.2.2.2)))]]) res.1 0 0 := by
  refine CWi.of (by decide) (Nat.le_of_ble_eq_true rfl) rfl ?_
  intro p e s m args below meth c A C EX htab
  have E := EX.1
  unfold f_L_person at hf
  refine wa_aload_n C 3 1 dL_person_0 rfl rfl ?_
  refine wa_iconst (v := 0) C 2 dL_person_1 rfl rfl ?_
  refine wa_aload_n C 0 3 dL_person_2 rfl rfl ?_
  refine wa_iload_n C 1 4 dL_person_3 rfl rfl ?_
  refine wa_iload_n C 2 5 dL_person_4 rfl rfl ?_
  obtain ⟨q1, hq1, hf⟩ := bind_ex hf
  refine wa_callVi (b1 := 0) (q1 := 0) (ci := 11) (ws' := [wH dT a0 h_tape h_reader (a0_friends 0) (a0_dusk 0) (a0_fam 0 0) h_coming h_acts h_seen (a0_pairs 0) h_trials h_imageNow h_imageActs h_imageSeen v0, wF dT a0_friends v0_friends, wD dT a0_dusk (a0_dpicks 0) (a0_dkeeps 0) q1.2.1, wR dT a0_dpicks q1.2.2.1, wR dT a0_dkeeps q1.2.2.2.1, wRw dT v0_fam.1 a0_fam v0_fam.2.2, wP dT a0_pairs q1.2.2.2.2, [(b3, .inl (dT 1, 1, .inr (.inl u3)))]]) (As := [.int p1, .int p2]) C 8 dL_person_5 rfl kv_L_20 (c_X11_person hq1) ⟨rfl, rfl⟩ ⟨Nat.le_of_ble_eq_true rfl, Nat.le_of_ble_eq_true rfl⟩ rfl rfl rfl [0, 1, 2, 3, 4, 5, 6] [7] [1, 2, 3, 4, 5, 6, 7, 0] rfl rfl rfl rfl (by decide) rfl rfl rfl rfl ⟨Nat.zero_le _, Nat.zero_le _⟩ (Nat.le_of_ble_eq_true rfl) ?_
  refine wa_i2l C 9 dL_person_8 rfl ?_
  obtain ⟨g3, hf⟩ := grd_ex hf
  obtain ⟨y4, ey4, hf⟩ := bnd_ex hf
  refine wa_last (ws' := [wH dT a0 h_tape h_reader (a0_friends 0) (a0_dusk 0) (a0_fam 0 0) h_coming h_acts h_seen (a0_pairs 0) h_trials h_imageNow h_imageActs h_imageSeen v0, wF dT a0_friends v0_friends, wD dT a0_dusk (a0_dpicks 0) (a0_dkeeps 0) q1.2.1, wR dT a0_dpicks q1.2.2.1, wR dT a0_dkeeps q1.2.2.2.1, wRw dT v0_fam.1 a0_fam v0_fam.2.2, wP dT a0_pairs q1.2.2.2.2, [(b3, .inl (dT 1, 1, .inr (.inl y4)))]]) C 10 7 0 dL_person_9 rfl rfl rfl (vi_in g3) (by rw [ey4]; rfl) ?_
  refine wa_goto C 17 dL_person_10 rfl ?_
  refine wa_iconst (v := 0) C 18 dL_person_17 rfl rfl ?_
  cases hf
  exact wa_irm C () dL_person_18 trivial rfl rfl (Nat.zero_le _) (Nat.zero_le _)
theorem kv_L_24 : KV "NewHousesLaw" 24 yX11_house cX11_house 3 (some .int) 2 := KV.mk q1043 q1044 q1045 q1 q1046 ⟨by decide, by decide, by decide +kernel⟩
def f_L_house (v0 : Ob) (v0_dusk : Ob) (v0_dpicks : Ob) (v0_dkeeps : Ob) (v0_fam : FS) (u3 : (Nat → Int64)) (p1 : Int32) (p2 : Int32) : Option (Int32 × Ob × Ob × Ob × (Nat → Int64)) := (f_X11_house v0 v0_dusk v0_dpicks v0_dkeeps v0_fam p1 p2).bind (fun q1 => grd (vi (0 : Int32) 1) (bnd (vp_updL u3 ((0 : Int32)).toNatClampNeg q1.1.toInt64) (fun y4 => some ((0 : Int32), q1.2.1, q1.2.2.1, q1.2.2.2, y4))))
set_option maxRecDepth 20000 in
theorem c_L_house {l : Launch} {D : va_G} {dT : Nat → ClassId} {aK aV : Nat → Nat} {a0 : Nat → Nat} {a0_dusk : Nat → Nat} {a0_dpicks : Nat → Nat} {a0_dkeeps : Nat → Nat} {a0_fam : Nat → Nat → Nat} {b3 : Nat} {h_tape : Nat} {h_reader : Nat} {h_friends : Nat} {h_coming : Nat} {h_acts : Nat} {h_seen : Nat} {h_pairs : Nat} {h_trials : Nat} {h_imageNow : Nat} {h_imageActs : Nat} {h_imageSeen : Nat} {v0 : Ob} {v0_dusk : Ob} {v0_dpicks : Ob} {v0_dkeeps : Ob} {v0_fam : FS} {u3 : (Nat → Int64)} {p1 : Int32} {p2 : Int32} {res : Int32 × Ob × Ob × Ob × (Nat → Int64)} (hf : f_L_house v0 v0_dusk v0_dpicks v0_dkeeps v0_fam u3 p1 p2 = some res) : CWi aK aV l yL_house cL_house 5 [((0 : Nat), (10 : Nat), (13 : Nat), (18 : Nat))] ({ frames := 5, cells := 0, slots := 0, locals := 121 } : Room) D dT [.ref (a0 0), .int p1, .int p2, .ref b3] ([wH dT a0 h_tape h_reader h_friends (a0_dusk 0) (a0_fam 0 0) h_coming h_acts h_seen h_pairs h_trials h_imageNow h_imageActs h_imageSeen v0, wD dT a0_dusk (a0_dpicks 0) (a0_dkeeps 0) v0_dusk, wR dT a0_dpicks v0_dpicks, wR dT a0_dkeeps v0_dkeeps, wRw dT v0_fam.1 a0_fam v0_fam.2.2, [(b3, .inl (dT 1, 1, .inr (.inl u3)))]]) (fun _ : Unit => True) (fun _ : Unit => [wH dT a0 h_tape h_reader h_friends (a0_dusk 0) (a0_fam 0 0) h_coming h_acts h_seen h_pairs h_trials h_imageNow h_imageActs h_imageSeen v0, wD dT a0_dusk (a0_dpicks 0) (a0_dkeeps 0) res.2.1, wR dT a0_dpicks res.2.2.1, wR dT a0_dkeeps res.2.2.2.1, wRw dT v0_fam.1 a0_fam v0_fam.2.2, [(b3, .inl (dT 1, 1, .inr (.inl res.2.2.2.2)))]]) res.1 0 0 := by
  refine CWi.of (by decide) (Nat.le_of_ble_eq_true rfl) rfl ?_
  intro p e s m args below meth c A C EX htab
  have E := EX.1
  unfold f_L_house at hf
  refine wa_aload_n C 3 1 dL_house_0 rfl rfl ?_
  refine wa_iconst (v := 0) C 2 dL_house_1 rfl rfl ?_
  refine wa_aload_n C 0 3 dL_house_2 rfl rfl ?_
  refine wa_iload_n C 1 4 dL_house_3 rfl rfl ?_
  refine wa_iload_n C 2 5 dL_house_4 rfl rfl ?_
  obtain ⟨q1, hq1, hf⟩ := bind_ex hf
  refine wa_callVi (b1 := 0) (q1 := 0) (ci := 11) (ws' := [wH dT a0 h_tape h_reader h_friends (a0_dusk 0) (a0_fam 0 0) h_coming h_acts h_seen h_pairs h_trials h_imageNow h_imageActs h_imageSeen v0, wD dT a0_dusk (a0_dpicks 0) (a0_dkeeps 0) q1.2.1, wR dT a0_dpicks q1.2.2.1, wR dT a0_dkeeps q1.2.2.2, wRw dT v0_fam.1 a0_fam v0_fam.2.2, [(b3, .inl (dT 1, 1, .inr (.inl u3)))]]) (As := [.int p1, .int p2]) C 8 dL_house_5 rfl kv_L_24 (c_X11_house hq1) ⟨rfl, rfl⟩ ⟨Nat.le_of_ble_eq_true rfl, Nat.le_of_ble_eq_true rfl⟩ rfl rfl rfl [0, 1, 2, 3, 4] [5] [1, 2, 3, 4, 5, 0] rfl rfl rfl rfl (by decide) rfl rfl rfl rfl ⟨Nat.zero_le _, Nat.zero_le _⟩ (Nat.le_of_ble_eq_true rfl) ?_
  refine wa_i2l C 9 dL_house_8 rfl ?_
  obtain ⟨g3, hf⟩ := grd_ex hf
  obtain ⟨y4, ey4, hf⟩ := bnd_ex hf
  refine wa_last (ws' := [wH dT a0 h_tape h_reader h_friends (a0_dusk 0) (a0_fam 0 0) h_coming h_acts h_seen h_pairs h_trials h_imageNow h_imageActs h_imageSeen v0, wD dT a0_dusk (a0_dpicks 0) (a0_dkeeps 0) q1.2.1, wR dT a0_dpicks q1.2.2.1, wR dT a0_dkeeps q1.2.2.2, wRw dT v0_fam.1 a0_fam v0_fam.2.2, [(b3, .inl (dT 1, 1, .inr (.inl y4)))]]) C 10 5 0 dL_house_9 rfl rfl rfl (vi_in g3) (by rw [ey4]; rfl) ?_
  refine wa_goto C 17 dL_house_10 rfl ?_
  refine wa_iconst (v := 0) C 18 dL_house_17 rfl rfl ?_
  cases hf
  exact wa_irm C () dL_house_18 trivial rfl rfl (Nat.zero_le _) (Nat.zero_le _)
theorem kv_L_27 : KV "NewHousesLaw" 27 yX11_move cX11_move 4 (some .int) 2 := KV.mk q1066 q1067 q1068 q1 q1069 ⟨by decide, by decide, by decide +kernel⟩
def f_L_move (v0 : Ob) (v0_coming : CS) (v0_dusk : Ob) (v0_dpicks : Ob) (v0_dkeeps : Ob) (v0_known : Ob) (v0_fam : FS) (v0_acts : Ob) (v0_actsfam : FS) (u3 : (Nat → Int64)) (B8 : Nat) (p1 : Int32) (p2 : Int32) : Option (Int32 × Ob × CS × FS × Ob × FS × (Nat → Int64)) := (f_X11_move v0 v0_coming v0_dusk v0_dpicks v0_dkeeps v0_known v0_fam v0_acts v0_actsfam B8 p1 p2).bind (fun q1 => grd (decide (v0_actsfam.1 ≤ q1.2.2.2.2.2.1 ∧ q1.2.2.2.2.2.1 ≤ B8)) (grd (vi (0 : Int32) 1) (bnd (vp_updL u3 ((0 : Int32)).toNatClampNeg q1.1.toInt64) (fun y5 => some ((0 : Int32), q1.2.1, q1.2.2.1, q1.2.2.2.1, q1.2.2.2.2.1, q1.2.2.2.2.2, y5)))))
set_option maxRecDepth 20000 in
theorem c_L_move {l : Launch} {D : va_G} {dT : Nat → ClassId} {aK aV : Nat → Nat} {a0 : Nat → Nat} {a0_coming : Nat → Nat} {a0_dusk : Nat → Nat} {a0_dpicks : Nat → Nat} {a0_dkeeps : Nat → Nat} {a0_known : Nat → Nat} {a0_fam : Nat → Nat → Nat} {a0_acts : Nat → Nat} {a0_actsfam : Nat → Nat → Nat} {b3 : Nat} {h_tape : Nat} {h_reader : Nat} {h_friends : Nat} {h_seen : Nat} {h_pairs : Nat} {h_trials : Nat} {h_imageNow : Nat} {h_imageActs : Nat} {h_imageSeen : Nat} {v0 : Ob} {v0_coming : CS} {v0_dusk : Ob} {v0_dpicks : Ob} {v0_dkeeps : Ob} {v0_known : Ob} {v0_fam : FS} {v0_acts : Ob} {v0_actsfam : FS} {u3 : (Nat → Int64)} {B8 : Nat} {p1 : Int32} {p2 : Int32} {res : Int32 × Ob × CS × FS × Ob × FS × (Nat → Int64)} (hf : f_L_move v0 v0_coming v0_dusk v0_dpicks v0_dkeeps v0_known v0_fam v0_acts v0_actsfam u3 B8 p1 p2 = some res) : CWi aK aV l yL_move cL_move 5 [((0 : Nat), (10 : Nat), (13 : Nat), (18 : Nat))] ({ frames := 6, cells := 8 * ((B8 - v0_actsfam.1)), slots := 96 * ((B8 - v0_actsfam.1)), locals := 125 } : Room) D dT [.ref (a0 0), .int p1, .int p2, .ref b3] ([wH dT a0 h_tape h_reader h_friends (a0_dusk 0) (a0_fam 0 0) (a0_coming 0) (a0_acts 0) h_seen h_pairs h_trials h_imageNow h_imageActs h_imageSeen v0, wC dT a0_coming (a0_dusk 0) (a0_fam 0 0) (a0_known 0) (pim a0_fam v0_fam.2.1) v0_coming, wD dT a0_dusk (a0_dpicks 0) (a0_dkeeps 0) v0_dusk, wR dT a0_dpicks v0_dpicks, wR dT a0_dkeeps v0_dkeeps, wK dT a0_known v0_known, wRw dT v0_fam.1 a0_fam v0_fam.2.2, wA dT a0_acts (pim a0_actsfam v0_actsfam.2.1) v0_acts, wRw dT v0_actsfam.1 a0_actsfam v0_actsfam.2.2, [(b3, .inl (dT 1, 1, .inr (.inl u3)))]]) (fun u : (Nat → Nat → Nat) => (∀ k, k < v0_actsfam.1 → u k = a0_actsfam k)) (fun u : (Nat → Nat → Nat) => [wH dT a0 h_tape h_reader h_friends (a0_dusk 0) (a0_fam 0 0) (a0_coming 0) (a0_acts 0) h_seen h_pairs h_trials h_imageNow h_imageActs h_imageSeen res.2.1, wC dT a0_coming (a0_dusk 0) (a0_fam 0 0) (a0_known 0) (pim a0_fam res.2.2.2.1.2.1) res.2.2.1, wD dT a0_dusk (a0_dpicks 0) (a0_dkeeps 0) v0_dusk, wR dT a0_dpicks v0_dpicks, wR dT a0_dkeeps v0_dkeeps, wK dT a0_known v0_known, wRw dT res.2.2.2.1.1 a0_fam res.2.2.2.1.2.2, wA dT a0_acts (pim u res.2.2.2.2.2.1.2.1) res.2.2.2.2.1, wRw dT res.2.2.2.2.2.1.1 u res.2.2.2.2.2.1.2.2, [(b3, .inl (dT 1, 1, .inr (.inl res.2.2.2.2.2.2)))]]) res.1 (8 * ((B8 - v0_actsfam.1))) (96 * ((B8 - v0_actsfam.1))) := by
  refine CWi.of (by decide) (Nat.le_of_ble_eq_true rfl) rfl ?_
  intro p e s m args below meth c A C EX htab
  have E := EX.1
  unfold f_L_move at hf
  have hm8 : v0_actsfam.1 ≤ v0_actsfam.1 := Nat.le_refl _
  have hb8 : v0_actsfam.1 - v0_actsfam.1 ≤ B8 - v0_actsfam.1 := by omega
  have hg8 : ∀ k, k < v0_actsfam.1 → a0_actsfam k = a0_actsfam k := fun _ _ => rfl
  refine wa_widen (k := (8 * ((v0_actsfam.1 - v0_actsfam.1)))) (n := (96 * ((v0_actsfam.1 - v0_actsfam.1)))) (Nat.zero_le _) (Nat.zero_le _) ?_
  refine wa_aload_n C 3 1 dL_move_0 rfl rfl ?_
  refine wa_iconst (v := 0) C 2 dL_move_1 rfl rfl ?_
  refine wa_aload_n C 0 3 dL_move_2 rfl rfl ?_
  refine wa_iload_n C 1 4 dL_move_3 rfl rfl ?_
  refine wa_iload_n C 2 5 dL_move_4 rfl rfl ?_
  obtain ⟨q1, hq1, hf⟩ := bind_ex hf
  obtain ⟨g2, hf⟩ := grd_ex hf
  replace g2 := of_decide_eq_true g2
  refine wa_callMi (b1 := 0) (q1 := 0) (ci := 11) (As := [.int p1, .int p2]) C (fun (ru3 : (Nat → Nat → Nat)) => [wH dT a0 h_tape h_reader h_friends (a0_dusk 0) (a0_fam 0 0) (a0_coming 0) (a0_acts 0) h_seen h_pairs h_trials h_imageNow h_imageActs h_imageSeen q1.2.1, wC dT a0_coming (a0_dusk 0) (a0_fam 0 0) (a0_known 0) (pim a0_fam q1.2.2.2.1.2.1) q1.2.2.1, wD dT a0_dusk (a0_dpicks 0) (a0_dkeeps 0) v0_dusk, wR dT a0_dpicks v0_dpicks, wR dT a0_dkeeps v0_dkeeps, wK dT a0_known v0_known, wRw dT q1.2.2.2.1.1 a0_fam q1.2.2.2.1.2.2, wA dT a0_acts (pim ru3 q1.2.2.2.2.2.2.1) q1.2.2.2.2.1, wRw dT q1.2.2.2.2.2.1 ru3 q1.2.2.2.2.2.2.2, [(b3, .inl (dT 1, 1, .inr (.inl u3)))]]) 8 dL_move_5 rfl kv_L_27 (c_X11_move hq1) ⟨rfl, rfl⟩ ⟨Nat.le_of_ble_eq_true rfl, Nat.le_of_ble_eq_true rfl⟩ rfl rfl rfl [0, 1, 2, 3, 4, 5, 6, 7, 8] [9] [1, 2, 3, 4, 5, 6, 7, 8, 9, 0] rfl rfl rfl rfl (by decide) rfl (fun _ => rfl) rfl rfl ⟨by show (8 * ((v0_actsfam.1 - v0_actsfam.1))) + 8 * ((B8 - v0_actsfam.1)) ≤ 8 * ((B8 - v0_actsfam.1)); omega, by show (96 * ((v0_actsfam.1 - v0_actsfam.1))) + 96 * ((B8 - v0_actsfam.1)) ≤ 96 * ((B8 - v0_actsfam.1)); omega⟩ (Nat.le_of_ble_eq_true rfl) (fun ru3 hu => ?_)
  refine wa_widen (k := (8 * ((B8 - v0_actsfam.1)))) (n := (96 * ((B8 - v0_actsfam.1)))) (by omega) (by omega) ?_
  replace hg8 : ∀ k, k < v0_actsfam.1 → ru3 k = a0_actsfam k := fun k hk => (hu k (by omega)).trans (hg8 k hk)
  replace hm8 : v0_actsfam.1 ≤ q1.2.2.2.2.2.1 := by omega
  replace hb8 : q1.2.2.2.2.2.1 - v0_actsfam.1 ≤ B8 - v0_actsfam.1 := by omega
  refine wa_i2l C 9 dL_move_8 rfl ?_
  obtain ⟨g4, hf⟩ := grd_ex hf
  obtain ⟨y5, ey5, hf⟩ := bnd_ex hf
  refine wa_last (ws' := [wH dT a0 h_tape h_reader h_friends (a0_dusk 0) (a0_fam 0 0) (a0_coming 0) (a0_acts 0) h_seen h_pairs h_trials h_imageNow h_imageActs h_imageSeen q1.2.1, wC dT a0_coming (a0_dusk 0) (a0_fam 0 0) (a0_known 0) (pim a0_fam q1.2.2.2.1.2.1) q1.2.2.1, wD dT a0_dusk (a0_dpicks 0) (a0_dkeeps 0) v0_dusk, wR dT a0_dpicks v0_dpicks, wR dT a0_dkeeps v0_dkeeps, wK dT a0_known v0_known, wRw dT q1.2.2.2.1.1 a0_fam q1.2.2.2.1.2.2, wA dT a0_acts (pim ru3 q1.2.2.2.2.2.2.1) q1.2.2.2.2.1, wRw dT q1.2.2.2.2.2.1 ru3 q1.2.2.2.2.2.2.2, [(b3, .inl (dT 1, 1, .inr (.inl y5)))]]) C 10 9 0 dL_move_9 rfl rfl rfl (vi_in g4) (by rw [ey5]; rfl) ?_
  refine wa_goto C 17 dL_move_10 rfl ?_
  refine wa_iconst (v := 0) C 18 dL_move_17 rfl rfl ?_
  cases hf
  exact wa_irm C (ru3) dL_move_18 hg8 rfl rfl (by show (8 * ((B8 - v0_actsfam.1))) ≤ 8 * ((B8 - v0_actsfam.1)); omega) (by show (96 * ((B8 - v0_actsfam.1))) ≤ 96 * ((B8 - v0_actsfam.1)); omega)
theorem kv_L_30 : KV "NewHousesLaw" 30 yX11_found cX11_found 2 (some .int) 1 := KV.mk q1082 q1083 q1084 q1 q1085 ⟨by decide, by decide, by decide +kernel⟩
def f_L_found (v0 : Ob) (v0_coming : CS) (v0_dusk : Ob) (v0_dpicks : Ob) (v0_dkeeps : Ob) (v0_known : Ob) (v0_fam : FS) (v0_acts : Ob) (v0_actsfam : FS) (u2 : (Nat → Int64)) (B8 : Nat) (p1 : Int32) : Option (Int32 × Ob × CS × FS × Ob × FS × (Nat → Int64)) := (f_X11_found v0 v0_coming v0_dusk v0_dpicks v0_dkeeps v0_known v0_fam v0_acts v0_actsfam B8 p1).bind (fun q1 => grd (decide (v0_actsfam.1 ≤ q1.2.2.2.2.2.1 ∧ q1.2.2.2.2.2.1 ≤ B8)) (grd (vi (0 : Int32) 1) (bnd (vp_updL u2 ((0 : Int32)).toNatClampNeg q1.1.toInt64) (fun y5 => some ((0 : Int32), q1.2.1, q1.2.2.1, q1.2.2.2.1, q1.2.2.2.2.1, q1.2.2.2.2.2, y5)))))
set_option maxRecDepth 20000 in
theorem c_L_found {l : Launch} {D : va_G} {dT : Nat → ClassId} {aK aV : Nat → Nat} {a0 : Nat → Nat} {a0_coming : Nat → Nat} {a0_dusk : Nat → Nat} {a0_dpicks : Nat → Nat} {a0_dkeeps : Nat → Nat} {a0_known : Nat → Nat} {a0_fam : Nat → Nat → Nat} {a0_acts : Nat → Nat} {a0_actsfam : Nat → Nat → Nat} {b2 : Nat} {h_tape : Nat} {h_reader : Nat} {h_friends : Nat} {h_seen : Nat} {h_pairs : Nat} {h_trials : Nat} {h_imageNow : Nat} {h_imageActs : Nat} {h_imageSeen : Nat} {v0 : Ob} {v0_coming : CS} {v0_dusk : Ob} {v0_dpicks : Ob} {v0_dkeeps : Ob} {v0_known : Ob} {v0_fam : FS} {v0_acts : Ob} {v0_actsfam : FS} {u2 : (Nat → Int64)} {B8 : Nat} {p1 : Int32} {res : Int32 × Ob × CS × FS × Ob × FS × (Nat → Int64)} (hf : f_L_found v0 v0_coming v0_dusk v0_dpicks v0_dkeeps v0_known v0_fam v0_acts v0_actsfam u2 B8 p1 = some res) : CWi aK aV l yL_found cL_found 4 [((0 : Nat), (9 : Nat), (12 : Nat), (18 : Nat))] ({ frames := 6, cells := 8 * ((B8 - v0_actsfam.1)), slots := 96 * ((B8 - v0_actsfam.1)), locals := 123 } : Room) D dT [.ref (a0 0), .int p1, .ref b2] ([wH dT a0 h_tape h_reader h_friends (a0_dusk 0) (a0_fam 0 0) (a0_coming 0) (a0_acts 0) h_seen h_pairs h_trials h_imageNow h_imageActs h_imageSeen v0, wC dT a0_coming (a0_dusk 0) (a0_fam 0 0) (a0_known 0) (pim a0_fam v0_fam.2.1) v0_coming, wD dT a0_dusk (a0_dpicks 0) (a0_dkeeps 0) v0_dusk, wR dT a0_dpicks v0_dpicks, wR dT a0_dkeeps v0_dkeeps, wK dT a0_known v0_known, wRw dT v0_fam.1 a0_fam v0_fam.2.2, wA dT a0_acts (pim a0_actsfam v0_actsfam.2.1) v0_acts, wRw dT v0_actsfam.1 a0_actsfam v0_actsfam.2.2, [(b2, .inl (dT 1, 1, .inr (.inl u2)))]]) (fun u : (Nat → Nat → Nat) => (∀ k, k < v0_actsfam.1 → u k = a0_actsfam k)) (fun u : (Nat → Nat → Nat) => [wH dT a0 h_tape h_reader h_friends (a0_dusk 0) (a0_fam 0 0) (a0_coming 0) (a0_acts 0) h_seen h_pairs h_trials h_imageNow h_imageActs h_imageSeen res.2.1, wC dT a0_coming (a0_dusk 0) (a0_fam 0 0) (a0_known 0) (pim a0_fam res.2.2.2.1.2.1) res.2.2.1, wD dT a0_dusk (a0_dpicks 0) (a0_dkeeps 0) v0_dusk, wR dT a0_dpicks v0_dpicks, wR dT a0_dkeeps v0_dkeeps, wK dT a0_known v0_known, wRw dT res.2.2.2.1.1 a0_fam res.2.2.2.1.2.2, wA dT a0_acts (pim u res.2.2.2.2.2.1.2.1) res.2.2.2.2.1, wRw dT res.2.2.2.2.2.1.1 u res.2.2.2.2.2.1.2.2, [(b2, .inl (dT 1, 1, .inr (.inl res.2.2.2.2.2.2)))]]) res.1 (8 * ((B8 - v0_actsfam.1))) (96 * ((B8 - v0_actsfam.1))) := by
  refine CWi.of (by decide) (Nat.le_of_ble_eq_true rfl) rfl ?_
  intro p e s m args below meth c A C EX htab
  have E := EX.1
  unfold f_L_found at hf
  have hm8 : v0_actsfam.1 ≤ v0_actsfam.1 := Nat.le_refl _
  have hb8 : v0_actsfam.1 - v0_actsfam.1 ≤ B8 - v0_actsfam.1 := by omega
  have hg8 : ∀ k, k < v0_actsfam.1 → a0_actsfam k = a0_actsfam k := fun _ _ => rfl
  refine wa_widen (k := (8 * ((v0_actsfam.1 - v0_actsfam.1)))) (n := (96 * ((v0_actsfam.1 - v0_actsfam.1)))) (Nat.zero_le _) (Nat.zero_le _) ?_
  refine wa_aload_n C 2 1 dL_found_0 rfl rfl ?_
  refine wa_iconst (v := 0) C 2 dL_found_1 rfl rfl ?_
  refine wa_aload_n C 0 3 dL_found_2 rfl rfl ?_
  refine wa_iload_n C 1 4 dL_found_3 rfl rfl ?_
  obtain ⟨q1, hq1, hf⟩ := bind_ex hf
  obtain ⟨g2, hf⟩ := grd_ex hf
  replace g2 := of_decide_eq_true g2
  refine wa_callMi (b1 := 0) (q1 := 0) (ci := 11) (As := [.int p1]) C (fun (ru3 : (Nat → Nat → Nat)) => [wH dT a0 h_tape h_reader h_friends (a0_dusk 0) (a0_fam 0 0) (a0_coming 0) (a0_acts 0) h_seen h_pairs h_trials h_imageNow h_imageActs h_imageSeen q1.2.1, wC dT a0_coming (a0_dusk 0) (a0_fam 0 0) (a0_known 0) (pim a0_fam q1.2.2.2.1.2.1) q1.2.2.1, wD dT a0_dusk (a0_dpicks 0) (a0_dkeeps 0) v0_dusk, wR dT a0_dpicks v0_dpicks, wR dT a0_dkeeps v0_dkeeps, wK dT a0_known v0_known, wRw dT q1.2.2.2.1.1 a0_fam q1.2.2.2.1.2.2, wA dT a0_acts (pim ru3 q1.2.2.2.2.2.2.1) q1.2.2.2.2.1, wRw dT q1.2.2.2.2.2.1 ru3 q1.2.2.2.2.2.2.2, [(b2, .inl (dT 1, 1, .inr (.inl u2)))]]) 7 dL_found_4 rfl kv_L_30 (c_X11_found hq1) ⟨rfl, rfl⟩ ⟨Nat.le_of_ble_eq_true rfl, Nat.le_of_ble_eq_true rfl⟩ rfl rfl rfl [0, 1, 2, 3, 4, 5, 6, 7, 8] [9] [1, 2, 3, 4, 5, 6, 7, 8, 9, 0] rfl rfl rfl rfl (by decide) rfl (fun _ => rfl) rfl rfl ⟨by show (8 * ((v0_actsfam.1 - v0_actsfam.1))) + 8 * ((B8 - v0_actsfam.1)) ≤ 8 * ((B8 - v0_actsfam.1)); omega, by show (96 * ((v0_actsfam.1 - v0_actsfam.1))) + 96 * ((B8 - v0_actsfam.1)) ≤ 96 * ((B8 - v0_actsfam.1)); omega⟩ (Nat.le_of_ble_eq_true rfl) (fun ru3 hu => ?_)
  refine wa_widen (k := (8 * ((B8 - v0_actsfam.1)))) (n := (96 * ((B8 - v0_actsfam.1)))) (by omega) (by omega) ?_
  replace hg8 : ∀ k, k < v0_actsfam.1 → ru3 k = a0_actsfam k := fun k hk => (hu k (by omega)).trans (hg8 k hk)
  replace hm8 : v0_actsfam.1 ≤ q1.2.2.2.2.2.1 := by omega
  replace hb8 : q1.2.2.2.2.2.1 - v0_actsfam.1 ≤ B8 - v0_actsfam.1 := by omega
  refine wa_i2l C 8 dL_found_7 rfl ?_
  obtain ⟨g4, hf⟩ := grd_ex hf
  obtain ⟨y5, ey5, hf⟩ := bnd_ex hf
  refine wa_last (ws' := [wH dT a0 h_tape h_reader h_friends (a0_dusk 0) (a0_fam 0 0) (a0_coming 0) (a0_acts 0) h_seen h_pairs h_trials h_imageNow h_imageActs h_imageSeen q1.2.1, wC dT a0_coming (a0_dusk 0) (a0_fam 0 0) (a0_known 0) (pim a0_fam q1.2.2.2.1.2.1) q1.2.2.1, wD dT a0_dusk (a0_dpicks 0) (a0_dkeeps 0) v0_dusk, wR dT a0_dpicks v0_dpicks, wR dT a0_dkeeps v0_dkeeps, wK dT a0_known v0_known, wRw dT q1.2.2.2.1.1 a0_fam q1.2.2.2.1.2.2, wA dT a0_acts (pim ru3 q1.2.2.2.2.2.2.1) q1.2.2.2.2.1, wRw dT q1.2.2.2.2.2.1 ru3 q1.2.2.2.2.2.2.2, [(b2, .inl (dT 1, 1, .inr (.inl y5)))]]) C 9 9 0 dL_found_8 rfl rfl rfl (vi_in g4) (by rw [ey5]; rfl) ?_
  refine wa_goto C 15 dL_found_9 rfl ?_
  refine wa_iconst (v := 0) C 16 dL_found_15 rfl rfl ?_
  cases hf
  exact wa_irm C (ru3) dL_found_16 hg8 rfl rfl (by show (8 * ((B8 - v0_actsfam.1))) ≤ 8 * ((B8 - v0_actsfam.1)); omega) (by show (96 * ((B8 - v0_actsfam.1))) ≤ 96 * ((B8 - v0_actsfam.1)); omega)
theorem kv_L_33 : KV "NewHousesLaw" 33 yX11_join cX11_join 4 (some .int) 2 := KV.mk q1095 q1096 q1097 q1 q1098 ⟨by decide, by decide, by decide +kernel⟩
def f_L_join (v0 : Ob) (v0_coming : CS) (v0_dusk : Ob) (v0_dpicks : Ob) (v0_dkeeps : Ob) (v0_known : Ob) (v0_fam : FS) (v0_acts : Ob) (v0_actsfam : FS) (u3 : (Nat → Int64)) (B8 : Nat) (p1 : Int32) (p2 : Int32) : Option (Int32 × Ob × CS × FS × Ob × FS × (Nat → Int64)) := (f_X11_join v0 v0_coming v0_dusk v0_dpicks v0_dkeeps v0_known v0_fam v0_acts v0_actsfam B8 p1 p2).bind (fun q1 => grd (decide (v0_actsfam.1 ≤ q1.2.2.2.2.2.1 ∧ q1.2.2.2.2.2.1 ≤ B8)) (grd (vi (0 : Int32) 1) (bnd (vp_updL u3 ((0 : Int32)).toNatClampNeg q1.1.toInt64) (fun y5 => some ((0 : Int32), q1.2.1, q1.2.2.1, q1.2.2.2.1, q1.2.2.2.2.1, q1.2.2.2.2.2, y5)))))
set_option maxRecDepth 20000 in
theorem c_L_join {l : Launch} {D : va_G} {dT : Nat → ClassId} {aK aV : Nat → Nat} {a0 : Nat → Nat} {a0_coming : Nat → Nat} {a0_dusk : Nat → Nat} {a0_dpicks : Nat → Nat} {a0_dkeeps : Nat → Nat} {a0_known : Nat → Nat} {a0_fam : Nat → Nat → Nat} {a0_acts : Nat → Nat} {a0_actsfam : Nat → Nat → Nat} {b3 : Nat} {h_tape : Nat} {h_reader : Nat} {h_friends : Nat} {h_seen : Nat} {h_pairs : Nat} {h_trials : Nat} {h_imageNow : Nat} {h_imageActs : Nat} {h_imageSeen : Nat} {v0 : Ob} {v0_coming : CS} {v0_dusk : Ob} {v0_dpicks : Ob} {v0_dkeeps : Ob} {v0_known : Ob} {v0_fam : FS} {v0_acts : Ob} {v0_actsfam : FS} {u3 : (Nat → Int64)} {B8 : Nat} {p1 : Int32} {p2 : Int32} {res : Int32 × Ob × CS × FS × Ob × FS × (Nat → Int64)} (hf : f_L_join v0 v0_coming v0_dusk v0_dpicks v0_dkeeps v0_known v0_fam v0_acts v0_actsfam u3 B8 p1 p2 = some res) : CWi aK aV l yL_join cL_join 5 [((0 : Nat), (10 : Nat), (13 : Nat), (18 : Nat))] ({ frames := 6, cells := 8 * ((B8 - v0_actsfam.1)), slots := 96 * ((B8 - v0_actsfam.1)), locals := 125 } : Room) D dT [.ref (a0 0), .int p1, .int p2, .ref b3] ([wH dT a0 h_tape h_reader h_friends (a0_dusk 0) (a0_fam 0 0) (a0_coming 0) (a0_acts 0) h_seen h_pairs h_trials h_imageNow h_imageActs h_imageSeen v0, wC dT a0_coming (a0_dusk 0) (a0_fam 0 0) (a0_known 0) (pim a0_fam v0_fam.2.1) v0_coming, wD dT a0_dusk (a0_dpicks 0) (a0_dkeeps 0) v0_dusk, wR dT a0_dpicks v0_dpicks, wR dT a0_dkeeps v0_dkeeps, wK dT a0_known v0_known, wRw dT v0_fam.1 a0_fam v0_fam.2.2, wA dT a0_acts (pim a0_actsfam v0_actsfam.2.1) v0_acts, wRw dT v0_actsfam.1 a0_actsfam v0_actsfam.2.2, [(b3, .inl (dT 1, 1, .inr (.inl u3)))]]) (fun u : (Nat → Nat → Nat) => (∀ k, k < v0_actsfam.1 → u k = a0_actsfam k)) (fun u : (Nat → Nat → Nat) => [wH dT a0 h_tape h_reader h_friends (a0_dusk 0) (a0_fam 0 0) (a0_coming 0) (a0_acts 0) h_seen h_pairs h_trials h_imageNow h_imageActs h_imageSeen res.2.1, wC dT a0_coming (a0_dusk 0) (a0_fam 0 0) (a0_known 0) (pim a0_fam res.2.2.2.1.2.1) res.2.2.1, wD dT a0_dusk (a0_dpicks 0) (a0_dkeeps 0) v0_dusk, wR dT a0_dpicks v0_dpicks, wR dT a0_dkeeps v0_dkeeps, wK dT a0_known v0_known, wRw dT res.2.2.2.1.1 a0_fam res.2.2.2.1.2.2, wA dT a0_acts (pim u res.2.2.2.2.2.1.2.1) res.2.2.2.2.1, wRw dT res.2.2.2.2.2.1.1 u res.2.2.2.2.2.1.2.2, [(b3, .inl (dT 1, 1, .inr (.inl res.2.2.2.2.2.2)))]]) res.1 (8 * ((B8 - v0_actsfam.1))) (96 * ((B8 - v0_actsfam.1))) := by
  refine CWi.of (by decide) (Nat.le_of_ble_eq_true rfl) rfl ?_
  intro p e s m args below meth c A C EX htab
  have E := EX.1
  unfold f_L_join at hf
  have hm8 : v0_actsfam.1 ≤ v0_actsfam.1 := Nat.le_refl _
  have hb8 : v0_actsfam.1 - v0_actsfam.1 ≤ B8 - v0_actsfam.1 := by omega
  have hg8 : ∀ k, k < v0_actsfam.1 → a0_actsfam k = a0_actsfam k := fun _ _ => rfl
  refine wa_widen (k := (8 * ((v0_actsfam.1 - v0_actsfam.1)))) (n := (96 * ((v0_actsfam.1 - v0_actsfam.1)))) (Nat.zero_le _) (Nat.zero_le _) ?_
  refine wa_aload_n C 3 1 dL_join_0 rfl rfl ?_
  refine wa_iconst (v := 0) C 2 dL_join_1 rfl rfl ?_
  refine wa_aload_n C 0 3 dL_join_2 rfl rfl ?_
  refine wa_iload_n C 1 4 dL_join_3 rfl rfl ?_
  refine wa_iload_n C 2 5 dL_join_4 rfl rfl ?_
  obtain ⟨q1, hq1, hf⟩ := bind_ex hf
  obtain ⟨g2, hf⟩ := grd_ex hf
  replace g2 := of_decide_eq_true g2
  refine wa_callMi (b1 := 0) (q1 := 0) (ci := 11) (As := [.int p1, .int p2]) C (fun (ru3 : (Nat → Nat → Nat)) => [wH dT a0 h_tape h_reader h_friends (a0_dusk 0) (a0_fam 0 0) (a0_coming 0) (a0_acts 0) h_seen h_pairs h_trials h_imageNow h_imageActs h_imageSeen q1.2.1, wC dT a0_coming (a0_dusk 0) (a0_fam 0 0) (a0_known 0) (pim a0_fam q1.2.2.2.1.2.1) q1.2.2.1, wD dT a0_dusk (a0_dpicks 0) (a0_dkeeps 0) v0_dusk, wR dT a0_dpicks v0_dpicks, wR dT a0_dkeeps v0_dkeeps, wK dT a0_known v0_known, wRw dT q1.2.2.2.1.1 a0_fam q1.2.2.2.1.2.2, wA dT a0_acts (pim ru3 q1.2.2.2.2.2.2.1) q1.2.2.2.2.1, wRw dT q1.2.2.2.2.2.1 ru3 q1.2.2.2.2.2.2.2, [(b3, .inl (dT 1, 1, .inr (.inl u3)))]]) 8 dL_join_5 rfl kv_L_33 (c_X11_join hq1) ⟨rfl, rfl⟩ ⟨Nat.le_of_ble_eq_true rfl, Nat.le_of_ble_eq_true rfl⟩ rfl rfl rfl [0, 1, 2, 3, 4, 5, 6, 7, 8] [9] [1, 2, 3, 4, 5, 6, 7, 8, 9, 0] rfl rfl rfl rfl (by decide) rfl (fun _ => rfl) rfl rfl ⟨by show (8 * ((v0_actsfam.1 - v0_actsfam.1))) + 8 * ((B8 - v0_actsfam.1)) ≤ 8 * ((B8 - v0_actsfam.1)); omega, by show (96 * ((v0_actsfam.1 - v0_actsfam.1))) + 96 * ((B8 - v0_actsfam.1)) ≤ 96 * ((B8 - v0_actsfam.1)); omega⟩ (Nat.le_of_ble_eq_true rfl) (fun ru3 hu => ?_)
  refine wa_widen (k := (8 * ((B8 - v0_actsfam.1)))) (n := (96 * ((B8 - v0_actsfam.1)))) (by omega) (by omega) ?_
  replace hg8 : ∀ k, k < v0_actsfam.1 → ru3 k = a0_actsfam k := fun k hk => (hu k (by omega)).trans (hg8 k hk)
  replace hm8 : v0_actsfam.1 ≤ q1.2.2.2.2.2.1 := by omega
  replace hb8 : q1.2.2.2.2.2.1 - v0_actsfam.1 ≤ B8 - v0_actsfam.1 := by omega
  refine wa_i2l C 9 dL_join_8 rfl ?_
  obtain ⟨g4, hf⟩ := grd_ex hf
  obtain ⟨y5, ey5, hf⟩ := bnd_ex hf
  refine wa_last (ws' := [wH dT a0 h_tape h_reader h_friends (a0_dusk 0) (a0_fam 0 0) (a0_coming 0) (a0_acts 0) h_seen h_pairs h_trials h_imageNow h_imageActs h_imageSeen q1.2.1, wC dT a0_coming (a0_dusk 0) (a0_fam 0 0) (a0_known 0) (pim a0_fam q1.2.2.2.1.2.1) q1.2.2.1, wD dT a0_dusk (a0_dpicks 0) (a0_dkeeps 0) v0_dusk, wR dT a0_dpicks v0_dpicks, wR dT a0_dkeeps v0_dkeeps, wK dT a0_known v0_known, wRw dT q1.2.2.2.1.1 a0_fam q1.2.2.2.1.2.2, wA dT a0_acts (pim ru3 q1.2.2.2.2.2.2.1) q1.2.2.2.2.1, wRw dT q1.2.2.2.2.2.1 ru3 q1.2.2.2.2.2.2.2, [(b3, .inl (dT 1, 1, .inr (.inl y5)))]]) C 10 9 0 dL_join_9 rfl rfl rfl (vi_in g4) (by rw [ey5]; rfl) ?_
  refine wa_goto C 17 dL_join_10 rfl ?_
  refine wa_iconst (v := 0) C 18 dL_join_17 rfl rfl ?_
  cases hf
  exact wa_irm C (ru3) dL_join_18 hg8 rfl rfl (by show (8 * ((B8 - v0_actsfam.1))) ≤ 8 * ((B8 - v0_actsfam.1)); omega) (by show (96 * ((B8 - v0_actsfam.1))) ≤ 96 * ((B8 - v0_actsfam.1)); omega)
theorem kv_L_36 : KV "NewHousesLaw" 36 yX11_rank cX11_rank 4 (some .int) 2 := KV.mk q1103 q1104 q1105 q1 q1106 ⟨by decide, by decide, by decide +kernel⟩
def f_L_rank (v0 : Ob) (v0_coming : CS) (v0_dusk : Ob) (v0_dpicks : Ob) (v0_dkeeps : Ob) (v0_known : Ob) (v0_fam : FS) (v0_acts : Ob) (v0_actsfam : FS) (u3 : (Nat → Int64)) (B8 : Nat) (p1 : Int32) (p2 : Int32) : Option (Int32 × Ob × CS × FS × Ob × FS × (Nat → Int64)) := (f_X11_rank v0 v0_coming v0_dusk v0_dpicks v0_dkeeps v0_known v0_fam v0_acts v0_actsfam B8 p1 p2).bind (fun q1 => grd (decide (v0_actsfam.1 ≤ q1.2.2.2.2.2.1 ∧ q1.2.2.2.2.2.1 ≤ B8)) (grd (vi (0 : Int32) 1) (bnd (vp_updL u3 ((0 : Int32)).toNatClampNeg q1.1.toInt64) (fun y5 => some ((0 : Int32), q1.2.1, q1.2.2.1, q1.2.2.2.1, q1.2.2.2.2.1, q1.2.2.2.2.2, y5)))))
set_option maxRecDepth 20000 in
theorem c_L_rank {l : Launch} {D : va_G} {dT : Nat → ClassId} {aK aV : Nat → Nat} {a0 : Nat → Nat} {a0_coming : Nat → Nat} {a0_dusk : Nat → Nat} {a0_dpicks : Nat → Nat} {a0_dkeeps : Nat → Nat} {a0_known : Nat → Nat} {a0_fam : Nat → Nat → Nat} {a0_acts : Nat → Nat} {a0_actsfam : Nat → Nat → Nat} {b3 : Nat} {h_tape : Nat} {h_reader : Nat} {h_friends : Nat} {h_seen : Nat} {h_pairs : Nat} {h_trials : Nat} {h_imageNow : Nat} {h_imageActs : Nat} {h_imageSeen : Nat} {v0 : Ob} {v0_coming : CS} {v0_dusk : Ob} {v0_dpicks : Ob} {v0_dkeeps : Ob} {v0_known : Ob} {v0_fam : FS} {v0_acts : Ob} {v0_actsfam : FS} {u3 : (Nat → Int64)} {B8 : Nat} {p1 : Int32} {p2 : Int32} {res : Int32 × Ob × CS × FS × Ob × FS × (Nat → Int64)} (hf : f_L_rank v0 v0_coming v0_dusk v0_dpicks v0_dkeeps v0_known v0_fam v0_acts v0_actsfam u3 B8 p1 p2 = some res) : CWi aK aV l yL_rank cL_rank 5 [((0 : Nat), (10 : Nat), (13 : Nat), (18 : Nat))] ({ frames := 6, cells := 8 * ((B8 - v0_actsfam.1)), slots := 96 * ((B8 - v0_actsfam.1)), locals := 125 } : Room) D dT [.ref (a0 0), .int p1, .int p2, .ref b3] ([wH dT a0 h_tape h_reader h_friends (a0_dusk 0) (a0_fam 0 0) (a0_coming 0) (a0_acts 0) h_seen h_pairs h_trials h_imageNow h_imageActs h_imageSeen v0, wC dT a0_coming (a0_dusk 0) (a0_fam 0 0) (a0_known 0) (pim a0_fam v0_fam.2.1) v0_coming, wD dT a0_dusk (a0_dpicks 0) (a0_dkeeps 0) v0_dusk, wR dT a0_dpicks v0_dpicks, wR dT a0_dkeeps v0_dkeeps, wK dT a0_known v0_known, wRw dT v0_fam.1 a0_fam v0_fam.2.2, wA dT a0_acts (pim a0_actsfam v0_actsfam.2.1) v0_acts, wRw dT v0_actsfam.1 a0_actsfam v0_actsfam.2.2, [(b3, .inl (dT 1, 1, .inr (.inl u3)))]]) (fun u : (Nat → Nat → Nat) => (∀ k, k < v0_actsfam.1 → u k = a0_actsfam k)) (fun u : (Nat → Nat → Nat) => [wH dT a0 h_tape h_reader h_friends (a0_dusk 0) (a0_fam 0 0) (a0_coming 0) (a0_acts 0) h_seen h_pairs h_trials h_imageNow h_imageActs h_imageSeen res.2.1, wC dT a0_coming (a0_dusk 0) (a0_fam 0 0) (a0_known 0) (pim a0_fam res.2.2.2.1.2.1) res.2.2.1, wD dT a0_dusk (a0_dpicks 0) (a0_dkeeps 0) v0_dusk, wR dT a0_dpicks v0_dpicks, wR dT a0_dkeeps v0_dkeeps, wK dT a0_known v0_known, wRw dT res.2.2.2.1.1 a0_fam res.2.2.2.1.2.2, wA dT a0_acts (pim u res.2.2.2.2.2.1.2.1) res.2.2.2.2.1, wRw dT res.2.2.2.2.2.1.1 u res.2.2.2.2.2.1.2.2, [(b3, .inl (dT 1, 1, .inr (.inl res.2.2.2.2.2.2)))]]) res.1 (8 * ((B8 - v0_actsfam.1))) (96 * ((B8 - v0_actsfam.1))) := by
  refine CWi.of (by decide) (Nat.le_of_ble_eq_true rfl) rfl ?_
  intro p e s m args below meth c A C EX htab
  have E := EX.1
  unfold f_L_rank at hf
  have hm8 : v0_actsfam.1 ≤ v0_actsfam.1 := Nat.le_refl _
  have hb8 : v0_actsfam.1 - v0_actsfam.1 ≤ B8 - v0_actsfam.1 := by omega
  have hg8 : ∀ k, k < v0_actsfam.1 → a0_actsfam k = a0_actsfam k := fun _ _ => rfl
  refine wa_widen (k := (8 * ((v0_actsfam.1 - v0_actsfam.1)))) (n := (96 * ((v0_actsfam.1 - v0_actsfam.1)))) (Nat.zero_le _) (Nat.zero_le _) ?_
  refine wa_aload_n C 3 1 dL_rank_0 rfl rfl ?_
  refine wa_iconst (v := 0) C 2 dL_rank_1 rfl rfl ?_
  refine wa_aload_n C 0 3 dL_rank_2 rfl rfl ?_
  refine wa_iload_n C 1 4 dL_rank_3 rfl rfl ?_
  refine wa_iload_n C 2 5 dL_rank_4 rfl rfl ?_
  obtain ⟨q1, hq1, hf⟩ := bind_ex hf
  obtain ⟨g2, hf⟩ := grd_ex hf
  replace g2 := of_decide_eq_true g2
  refine wa_callMi (b1 := 0) (q1 := 0) (ci := 11) (As := [.int p1, .int p2]) C (fun (ru3 : (Nat → Nat → Nat)) => [wH dT a0 h_tape h_reader h_friends (a0_dusk 0) (a0_fam 0 0) (a0_coming 0) (a0_acts 0) h_seen h_pairs h_trials h_imageNow h_imageActs h_imageSeen q1.2.1, wC dT a0_coming (a0_dusk 0) (a0_fam 0 0) (a0_known 0) (pim a0_fam q1.2.2.2.1.2.1) q1.2.2.1, wD dT a0_dusk (a0_dpicks 0) (a0_dkeeps 0) v0_dusk, wR dT a0_dpicks v0_dpicks, wR dT a0_dkeeps v0_dkeeps, wK dT a0_known v0_known, wRw dT q1.2.2.2.1.1 a0_fam q1.2.2.2.1.2.2, wA dT a0_acts (pim ru3 q1.2.2.2.2.2.2.1) q1.2.2.2.2.1, wRw dT q1.2.2.2.2.2.1 ru3 q1.2.2.2.2.2.2.2, [(b3, .inl (dT 1, 1, .inr (.inl u3)))]]) 8 dL_rank_5 rfl kv_L_36 (c_X11_rank hq1) ⟨rfl, rfl⟩ ⟨Nat.le_of_ble_eq_true rfl, Nat.le_of_ble_eq_true rfl⟩ rfl rfl rfl [0, 1, 2, 3, 4, 5, 6, 7, 8] [9] [1, 2, 3, 4, 5, 6, 7, 8, 9, 0] rfl rfl rfl rfl (by decide) rfl (fun _ => rfl) rfl rfl ⟨by show (8 * ((v0_actsfam.1 - v0_actsfam.1))) + 8 * ((B8 - v0_actsfam.1)) ≤ 8 * ((B8 - v0_actsfam.1)); omega, by show (96 * ((v0_actsfam.1 - v0_actsfam.1))) + 96 * ((B8 - v0_actsfam.1)) ≤ 96 * ((B8 - v0_actsfam.1)); omega⟩ (Nat.le_of_ble_eq_true rfl) (fun ru3 hu => ?_)
  refine wa_widen (k := (8 * ((B8 - v0_actsfam.1)))) (n := (96 * ((B8 - v0_actsfam.1)))) (by omega) (by omega) ?_
  replace hg8 : ∀ k, k < v0_actsfam.1 → ru3 k = a0_actsfam k := fun k hk => (hu k (by omega)).trans (hg8 k hk)
  replace hm8 : v0_actsfam.1 ≤ q1.2.2.2.2.2.1 := by omega
  replace hb8 : q1.2.2.2.2.2.1 - v0_actsfam.1 ≤ B8 - v0_actsfam.1 := by omega
  refine wa_i2l C 9 dL_rank_8 rfl ?_
  obtain ⟨g4, hf⟩ := grd_ex hf
  obtain ⟨y5, ey5, hf⟩ := bnd_ex hf
  refine wa_last (ws' := [wH dT a0 h_tape h_reader h_friends (a0_dusk 0) (a0_fam 0 0) (a0_coming 0) (a0_acts 0) h_seen h_pairs h_trials h_imageNow h_imageActs h_imageSeen q1.2.1, wC dT a0_coming (a0_dusk 0) (a0_fam 0 0) (a0_known 0) (pim a0_fam q1.2.2.2.1.2.1) q1.2.2.1, wD dT a0_dusk (a0_dpicks 0) (a0_dkeeps 0) v0_dusk, wR dT a0_dpicks v0_dpicks, wR dT a0_dkeeps v0_dkeeps, wK dT a0_known v0_known, wRw dT q1.2.2.2.1.1 a0_fam q1.2.2.2.1.2.2, wA dT a0_acts (pim ru3 q1.2.2.2.2.2.2.1) q1.2.2.2.2.1, wRw dT q1.2.2.2.2.2.1 ru3 q1.2.2.2.2.2.2.2, [(b3, .inl (dT 1, 1, .inr (.inl y5)))]]) C 10 9 0 dL_rank_9 rfl rfl rfl (vi_in g4) (by rw [ey5]; rfl) ?_
  refine wa_goto C 17 dL_rank_10 rfl ?_
  refine wa_iconst (v := 0) C 18 dL_rank_17 rfl rfl ?_
  cases hf
  exact wa_irm C (ru3) dL_rank_18 hg8 rfl rfl (by show (8 * ((B8 - v0_actsfam.1))) ≤ 8 * ((B8 - v0_actsfam.1)); omega) (by show (96 * ((B8 - v0_actsfam.1))) ≤ 96 * ((B8 - v0_actsfam.1)); omega)
theorem kv_L_39 : KV "NewHousesLaw" 39 yX11_then cX11_then 6 (some .int) 3 := KV.mk q1110 q1111 q1112 q1 q1113 ⟨by decide, by decide, by decide +kernel⟩
def f_L_then (v0 : Ob) (v0_coming : CS) (v0_dusk : Ob) (v0_dpicks : Ob) (v0_dkeeps : Ob) (v0_known : Ob) (v0_fam : FS) (u4 : (Nat → Int64)) (B6 : Nat) (p1 : Int32) (p2 : Int32) (p3 : Int32) : Option (Int32 × CS × Ob × Ob × Ob × FS × (Nat → Int64)) := (f_X11_then v0 v0_coming v0_dusk v0_dpicks v0_dkeeps v0_known v0_fam B6 p1 p2 p3).bind (fun q1 => grd (decide (v0_fam.1 ≤ q1.2.2.2.2.2.1 ∧ q1.2.2.2.2.2.1 ≤ B6)) (grd (vi (0 : Int32) 1) (bnd (vp_updL u4 ((0 : Int32)).toNatClampNeg q1.1.toInt64) (fun y5 => some ((0 : Int32), q1.2.1, q1.2.2.1, q1.2.2.2.1, q1.2.2.2.2.1, q1.2.2.2.2.2, y5)))))
set_option maxRecDepth 20000 in
theorem c_L_then {l : Launch} {D : va_G} {dT : Nat → ClassId} {aK aV : Nat → Nat} {a0 : Nat → Nat} {a0_coming : Nat → Nat} {a0_dusk : Nat → Nat} {a0_dpicks : Nat → Nat} {a0_dkeeps : Nat → Nat} {a0_known : Nat → Nat} {a0_fam : Nat → Nat → Nat} {b4 : Nat} {h_tape : Nat} {h_reader : Nat} {h_friends : Nat} {h_acts : Nat} {h_seen : Nat} {h_pairs : Nat} {h_trials : Nat} {h_imageNow : Nat} {h_imageActs : Nat} {h_imageSeen : Nat} {v0 : Ob} {v0_coming : CS} {v0_dusk : Ob} {v0_dpicks : Ob} {v0_dkeeps : Ob} {v0_known : Ob} {v0_fam : FS} {u4 : (Nat → Int64)} {B6 : Nat} {p1 : Int32} {p2 : Int32} {p3 : Int32} {res : Int32 × CS × Ob × Ob × Ob × FS × (Nat → Int64)} (hf : f_L_then v0 v0_coming v0_dusk v0_dpicks v0_dkeeps v0_known v0_fam u4 B6 p1 p2 p3 = some res) : CWi aK aV l yL_then cL_then 6 [((0 : Nat), (12 : Nat), (15 : Nat), (18 : Nat)), ((0 : Nat), (12 : Nat), (19 : Nat), (13 : Nat))] ({ frames := 8, cells := 8 * ((B6 - v0_fam.1)), slots := 96 * ((B6 - v0_fam.1)), locals := 178 } : Room) D dT [.ref (a0 0), .int p1, .int p2, .int p3, .ref b4] ([wH dT a0 h_tape h_reader h_friends (a0_dusk 0) (a0_fam 0 0) (a0_coming 0) h_acts h_seen h_pairs h_trials h_imageNow h_imageActs h_imageSeen v0, wC dT a0_coming (a0_dusk 0) (a0_fam 0 0) (a0_known 0) (pim a0_fam v0_fam.2.1) v0_coming, wD dT a0_dusk (a0_dpicks 0) (a0_dkeeps 0) v0_dusk, wR dT a0_dpicks v0_dpicks, wR dT a0_dkeeps v0_dkeeps, wK dT a0_known v0_known, wRw dT v0_fam.1 a0_fam v0_fam.2.2, [(b4, .inl (dT 1, 1, .inr (.inl u4)))]]) (fun u : (Nat → Nat → Nat) => (∀ k, k < v0_fam.1 → u k = a0_fam k)) (fun u : (Nat → Nat → Nat) => [wH dT a0 h_tape h_reader h_friends (a0_dusk 0) (u 0 0) (a0_coming 0) h_acts h_seen h_pairs h_trials h_imageNow h_imageActs h_imageSeen v0, wC dT a0_coming (a0_dusk 0) (u 0 0) (a0_known 0) (pim u res.2.2.2.2.2.1.2.1) res.2.1, wD dT a0_dusk (a0_dpicks 0) (a0_dkeeps 0) res.2.2.1, wR dT a0_dpicks res.2.2.2.1, wR dT a0_dkeeps res.2.2.2.2.1, wK dT a0_known v0_known, wRw dT res.2.2.2.2.2.1.1 u res.2.2.2.2.2.1.2.2, [(b4, .inl (dT 1, 1, .inr (.inl res.2.2.2.2.2.2)))]]) res.1 (8 * ((B6 - v0_fam.1))) (96 * ((B6 - v0_fam.1))) := by
  refine CWi.of (by decide) (Nat.le_of_ble_eq_true rfl) rfl ?_
  intro p e s m args below meth c A C EX htab
  have E := EX.1
  unfold f_L_then at hf
  have hm6 : v0_fam.1 ≤ v0_fam.1 := Nat.le_refl _
  have hb6 : v0_fam.1 - v0_fam.1 ≤ B6 - v0_fam.1 := by omega
  have hg6 : ∀ k, k < v0_fam.1 → a0_fam k = a0_fam k := fun _ _ => rfl
  refine wa_widen (k := (8 * ((v0_fam.1 - v0_fam.1)))) (n := (96 * ((v0_fam.1 - v0_fam.1)))) (Nat.zero_le _) (Nat.zero_le _) ?_
  refine wa_aload C 4 2 dL_then_0 rfl rfl ?_
  refine wa_iconst (v := 0) C 3 dL_then_2 rfl rfl ?_
  refine wa_aload_n C 0 4 dL_then_3 rfl rfl ?_
  refine wa_iload_n C 1 5 dL_then_4 rfl rfl ?_
  refine wa_iload_n C 2 6 dL_then_5 rfl rfl ?_
  refine wa_iload_n C 3 7 dL_then_6 rfl rfl ?_
  obtain ⟨q1, hq1, hf⟩ := bind_ex hf
  obtain ⟨g2, hf⟩ := grd_ex hf
  replace g2 := of_decide_eq_true g2
  refine wa_callMi (b1 := 0) (q1 := 0) (ci := 11) (As := [.int p1, .int p2, .int p3]) C (fun (ru3 : (Nat → Nat → Nat)) => [wH dT a0 h_tape h_reader h_friends (a0_dusk 0) (ru3 0 0) (a0_coming 0) h_acts h_seen h_pairs h_trials h_imageNow h_imageActs h_imageSeen v0, wC dT a0_coming (a0_dusk 0) (ru3 0 0) (a0_known 0) (pim ru3 q1.2.2.2.2.2.2.1) q1.2.1, wD dT a0_dusk (a0_dpicks 0) (a0_dkeeps 0) q1.2.2.1, wR dT a0_dpicks q1.2.2.2.1, wR dT a0_dkeeps q1.2.2.2.2.1, wK dT a0_known v0_known, wRw dT q1.2.2.2.2.2.1 ru3 q1.2.2.2.2.2.2.2, [(b4, .inl (dT 1, 1, .inr (.inl u4)))]]) 10 dL_then_7 rfl kv_L_39 (c_X11_then hq1) ⟨rfl, rfl⟩ ⟨Nat.le_of_ble_eq_true rfl, Nat.le_of_ble_eq_true rfl⟩ rfl rfl rfl [0, 1, 2, 3, 4, 5, 6] [7] [1, 2, 3, 4, 5, 6, 7, 0] rfl rfl rfl rfl (by decide) rfl (fun _ => rfl) rfl rfl ⟨by show (8 * ((v0_fam.1 - v0_fam.1))) + 8 * ((B6 - v0_fam.1)) ≤ 8 * ((B6 - v0_fam.1)); omega, by show (96 * ((v0_fam.1 - v0_fam.1))) + 96 * ((B6 - v0_fam.1)) ≤ 96 * ((B6 - v0_fam.1)); omega⟩ (Nat.le_of_ble_eq_true rfl) (fun ru3 hu => ?_)
  refine wa_widen (k := (8 * ((B6 - v0_fam.1)))) (n := (96 * ((B6 - v0_fam.1)))) (by omega) (by omega) ?_
  replace hg6 : ∀ k, k < v0_fam.1 → ru3 k = a0_fam k := fun k hk => (hu k (by omega)).trans (hg6 k hk)
  replace hm6 : v0_fam.1 ≤ q1.2.2.2.2.2.1 := by omega
  replace hb6 : q1.2.2.2.2.2.1 - v0_fam.1 ≤ B6 - v0_fam.1 := by omega
  refine wa_i2l C 11 dL_then_10 rfl ?_
  obtain ⟨g4, hf⟩ := grd_ex hf
  obtain ⟨y5, ey5, hf⟩ := bnd_ex hf
  refine wa_last (ws' := [wH dT a0 h_tape h_reader h_friends (a0_dusk 0) (ru3 0 0) (a0_coming 0) h_acts h_seen h_pairs h_trials h_imageNow h_imageActs h_imageSeen v0, wC dT a0_coming (a0_dusk 0) (ru3 0 0) (a0_known 0) (pim ru3 q1.2.2.2.2.2.2.1) q1.2.1, wD dT a0_dusk (a0_dpicks 0) (a0_dkeeps 0) q1.2.2.1, wR dT a0_dpicks q1.2.2.2.1, wR dT a0_dkeeps q1.2.2.2.2.1, wK dT a0_known v0_known, wRw dT q1.2.2.2.2.2.1 ru3 q1.2.2.2.2.2.2.2, [(b4, .inl (dT 1, 1, .inr (.inl y5)))]]) C 12 7 0 dL_then_11 rfl rfl rfl (vi_in g4) (by rw [ey5]; rfl) ?_
  refine wa_goto C 23 dL_then_12 rfl ?_
  refine wa_iconst (v := 0) C 24 dL_then_23 rfl rfl ?_
  cases hf
  exact wa_irm C (ru3) dL_then_24 hg6 rfl rfl (by show (8 * ((B6 - v0_fam.1))) ≤ 8 * ((B6 - v0_fam.1)); omega) (by show (96 * ((B6 - v0_fam.1))) ≤ 96 * ((B6 - v0_fam.1)); omega)
theorem kv_L_43 : KV "NewHousesLaw" 43 yX11_size cX11_size 3 (some .int) 2 := KV.mk q1125 q1126 q1127 q1 q1128 ⟨by decide, by decide, by decide +kernel⟩
def f_L_size (v0 : Ob) (v0_coming : CS) (v0_dusk : Ob) (v0_dpicks : Ob) (v0_dkeeps : Ob) (v0_known : Ob) (v0_fam : FS) (u3 : (Nat → Int64)) (B6 : Nat) (p1 : Int32) (p2 : Int32) : Option (Int32 × CS × Ob × Ob × Ob × FS × (Nat → Int64)) := (f_X11_size v0 v0_coming v0_dusk v0_dpicks v0_dkeeps v0_known v0_fam B6 p1 p2).bind (fun q1 => grd (decide (v0_fam.1 ≤ q1.2.2.2.2.2.1 ∧ q1.2.2.2.2.2.1 ≤ B6)) (grd (vi (0 : Int32) 1) (bnd (vp_updL u3 ((0 : Int32)).toNatClampNeg q1.1.toInt64) (fun y5 => some ((0 : Int32), q1.2.1, q1.2.2.1, q1.2.2.2.1, q1.2.2.2.2.1, q1.2.2.2.2.2, y5)))))
set_option maxRecDepth 20000 in
theorem c_L_size {l : Launch} {D : va_G} {dT : Nat → ClassId} {aK aV : Nat → Nat} {a0 : Nat → Nat} {a0_coming : Nat → Nat} {a0_dusk : Nat → Nat} {a0_dpicks : Nat → Nat} {a0_dkeeps : Nat → Nat} {a0_known : Nat → Nat} {a0_fam : Nat → Nat → Nat} {b3 : Nat} {h_tape : Nat} {h_reader : Nat} {h_friends : Nat} {h_acts : Nat} {h_seen : Nat} {h_pairs : Nat} {h_trials : Nat} {h_imageNow : Nat} {h_imageActs : Nat} {h_imageSeen : Nat} {v0 : Ob} {v0_coming : CS} {v0_dusk : Ob} {v0_dpicks : Ob} {v0_dkeeps : Ob} {v0_known : Ob} {v0_fam : FS} {u3 : (Nat → Int64)} {B6 : Nat} {p1 : Int32} {p2 : Int32} {res : Int32 × CS × Ob × Ob × Ob × FS × (Nat → Int64)} (hf : f_L_size v0 v0_coming v0_dusk v0_dpicks v0_dkeeps v0_known v0_fam u3 B6 p1 p2 = some res) : CWi aK aV l yL_size cL_size 5 [((0 : Nat), (10 : Nat), (13 : Nat), (13 : Nat))] ({ frames := 8, cells := 8 * ((B6 - v0_fam.1)), slots := 96 * ((B6 - v0_fam.1)), locals := 175 } : Room) D dT [.ref (a0 0), .int p1, .int p2, .ref b3] ([wH dT a0 h_tape h_reader h_friends (a0_dusk 0) (a0_fam 0 0) (a0_coming 0) h_acts h_seen h_pairs h_trials h_imageNow h_imageActs h_imageSeen v0, wC dT a0_coming (a0_dusk 0) (a0_fam 0 0) (a0_known 0) (pim a0_fam v0_fam.2.1) v0_coming, wD dT a0_dusk (a0_dpicks 0) (a0_dkeeps 0) v0_dusk, wR dT a0_dpicks v0_dpicks, wR dT a0_dkeeps v0_dkeeps, wK dT a0_known v0_known, wRw dT v0_fam.1 a0_fam v0_fam.2.2, [(b3, .inl (dT 1, 1, .inr (.inl u3)))]]) (fun u : (Nat → Nat → Nat) => (∀ k, k < v0_fam.1 → u k = a0_fam k)) (fun u : (Nat → Nat → Nat) => [wH dT a0 h_tape h_reader h_friends (a0_dusk 0) (u 0 0) (a0_coming 0) h_acts h_seen h_pairs h_trials h_imageNow h_imageActs h_imageSeen v0, wC dT a0_coming (a0_dusk 0) (u 0 0) (a0_known 0) (pim u res.2.2.2.2.2.1.2.1) res.2.1, wD dT a0_dusk (a0_dpicks 0) (a0_dkeeps 0) res.2.2.1, wR dT a0_dpicks res.2.2.2.1, wR dT a0_dkeeps res.2.2.2.2.1, wK dT a0_known v0_known, wRw dT res.2.2.2.2.2.1.1 u res.2.2.2.2.2.1.2.2, [(b3, .inl (dT 1, 1, .inr (.inl res.2.2.2.2.2.2)))]]) res.1 (8 * ((B6 - v0_fam.1))) (96 * ((B6 - v0_fam.1))) := by
  refine CWi.of (by decide) (Nat.le_of_ble_eq_true rfl) rfl ?_
  intro p e s m args below meth c A C EX htab
  have E := EX.1
  unfold f_L_size at hf
  have hm6 : v0_fam.1 ≤ v0_fam.1 := Nat.le_refl _
  have hb6 : v0_fam.1 - v0_fam.1 ≤ B6 - v0_fam.1 := by omega
  have hg6 : ∀ k, k < v0_fam.1 → a0_fam k = a0_fam k := fun _ _ => rfl
  refine wa_widen (k := (8 * ((v0_fam.1 - v0_fam.1)))) (n := (96 * ((v0_fam.1 - v0_fam.1)))) (Nat.zero_le _) (Nat.zero_le _) ?_
  refine wa_aload_n C 3 1 dL_size_0 rfl rfl ?_
  refine wa_iconst (v := 0) C 2 dL_size_1 rfl rfl ?_
  refine wa_aload_n C 0 3 dL_size_2 rfl rfl ?_
  refine wa_iload_n C 1 4 dL_size_3 rfl rfl ?_
  refine wa_iload_n C 2 5 dL_size_4 rfl rfl ?_
  obtain ⟨q1, hq1, hf⟩ := bind_ex hf
  obtain ⟨g2, hf⟩ := grd_ex hf
  replace g2 := of_decide_eq_true g2
  refine wa_callMi (b1 := 0) (q1 := 0) (ci := 11) (As := [.int p1, .int p2]) C (fun (ru3 : (Nat → Nat → Nat)) => [wH dT a0 h_tape h_reader h_friends (a0_dusk 0) (ru3 0 0) (a0_coming 0) h_acts h_seen h_pairs h_trials h_imageNow h_imageActs h_imageSeen v0, wC dT a0_coming (a0_dusk 0) (ru3 0 0) (a0_known 0) (pim ru3 q1.2.2.2.2.2.2.1) q1.2.1, wD dT a0_dusk (a0_dpicks 0) (a0_dkeeps 0) q1.2.2.1, wR dT a0_dpicks q1.2.2.2.1, wR dT a0_dkeeps q1.2.2.2.2.1, wK dT a0_known v0_known, wRw dT q1.2.2.2.2.2.1 ru3 q1.2.2.2.2.2.2.2, [(b3, .inl (dT 1, 1, .inr (.inl u3)))]]) 8 dL_size_5 rfl kv_L_43 (c_X11_size hq1) ⟨rfl, rfl⟩ ⟨Nat.le_of_ble_eq_true rfl, Nat.le_of_ble_eq_true rfl⟩ rfl rfl rfl [0, 1, 2, 3, 4, 5, 6] [7] [1, 2, 3, 4, 5, 6, 7, 0] rfl rfl rfl rfl (by decide) rfl (fun _ => rfl) rfl rfl ⟨by show (8 * ((v0_fam.1 - v0_fam.1))) + 8 * ((B6 - v0_fam.1)) ≤ 8 * ((B6 - v0_fam.1)); omega, by show (96 * ((v0_fam.1 - v0_fam.1))) + 96 * ((B6 - v0_fam.1)) ≤ 96 * ((B6 - v0_fam.1)); omega⟩ (Nat.le_of_ble_eq_true rfl) (fun ru3 hu => ?_)
  refine wa_widen (k := (8 * ((B6 - v0_fam.1)))) (n := (96 * ((B6 - v0_fam.1)))) (by omega) (by omega) ?_
  replace hg6 : ∀ k, k < v0_fam.1 → ru3 k = a0_fam k := fun k hk => (hu k (by omega)).trans (hg6 k hk)
  replace hm6 : v0_fam.1 ≤ q1.2.2.2.2.2.1 := by omega
  replace hb6 : q1.2.2.2.2.2.1 - v0_fam.1 ≤ B6 - v0_fam.1 := by omega
  refine wa_i2l C 9 dL_size_8 rfl ?_
  obtain ⟨g4, hf⟩ := grd_ex hf
  obtain ⟨y5, ey5, hf⟩ := bnd_ex hf
  refine wa_last (ws' := [wH dT a0 h_tape h_reader h_friends (a0_dusk 0) (ru3 0 0) (a0_coming 0) h_acts h_seen h_pairs h_trials h_imageNow h_imageActs h_imageSeen v0, wC dT a0_coming (a0_dusk 0) (ru3 0 0) (a0_known 0) (pim ru3 q1.2.2.2.2.2.2.1) q1.2.1, wD dT a0_dusk (a0_dpicks 0) (a0_dkeeps 0) q1.2.2.1, wR dT a0_dpicks q1.2.2.2.1, wR dT a0_dkeeps q1.2.2.2.2.1, wK dT a0_known v0_known, wRw dT q1.2.2.2.2.2.1 ru3 q1.2.2.2.2.2.2.2, [(b3, .inl (dT 1, 1, .inr (.inl y5)))]]) C 10 7 0 dL_size_9 rfl rfl rfl (vi_in g4) (by rw [ey5]; rfl) ?_
  refine wa_goto C 17 dL_size_10 rfl ?_
  refine wa_iconst (v := 0) C 18 dL_size_17 rfl rfl ?_
  cases hf
  exact wa_irm C (ru3) dL_size_18 hg6 rfl rfl (by show (8 * ((B6 - v0_fam.1))) ≤ 8 * ((B6 - v0_fam.1)); omega) (by show (96 * ((B6 - v0_fam.1))) ≤ 96 * ((B6 - v0_fam.1)); omega)
theorem kv_L_46 : KV "NewHousesLaw" 46 yX11_later cX11_later 4 (some .int) 2 := KV.mk q1136 q1137 q1138 q1 q1139 ⟨by decide, by decide, by decide +kernel⟩
def f_L_later (v0 : Ob) (v0_friends : Ob) (v0_coming : CS) (v0_dusk : Ob) (v0_dpicks : Ob) (v0_dkeeps : Ob) (v0_known : Ob) (v0_fam : FS) (u3 : (Nat → Int64)) (B7 : Nat) (p1 : Int32) (p2 : Int32) : Option (Int32 × CS × Ob × Ob × Ob × FS × (Nat → Int64)) := (f_X11_later v0 v0_friends v0_coming v0_dusk v0_dpicks v0_dkeeps v0_known v0_fam B7 p1 p2).bind (fun q1 => grd (decide (v0_fam.1 ≤ q1.2.2.2.2.2.1 ∧ q1.2.2.2.2.2.1 ≤ B7)) (grd (vi (0 : Int32) 1) (bnd (vp_updL u3 ((0 : Int32)).toNatClampNeg q1.1.toInt64) (fun y5 => some ((0 : Int32), q1.2.1, q1.2.2.1, q1.2.2.2.1, q1.2.2.2.2.1, q1.2.2.2.2.2, y5)))))
set_option maxRecDepth 20000 in
theorem c_L_later {l : Launch} {D : va_G} {dT : Nat → ClassId} {aK aV : Nat → Nat} {a0 : Nat → Nat} {a0_friends : Nat → Nat} {a0_coming : Nat → Nat} {a0_dusk : Nat → Nat} {a0_dpicks : Nat → Nat} {a0_dkeeps : Nat → Nat} {a0_known : Nat → Nat} {a0_fam : Nat → Nat → Nat} {b3 : Nat} {h_tape : Nat} {h_reader : Nat} {h_acts : Nat} {h_seen : Nat} {h_pairs : Nat} {h_trials : Nat} {h_imageNow : Nat} {h_imageActs : Nat} {h_imageSeen : Nat} {v0 : Ob} {v0_friends : Ob} {v0_coming : CS} {v0_dusk : Ob} {v0_dpicks : Ob} {v0_dkeeps : Ob} {v0_known : Ob} {v0_fam : FS} {u3 : (Nat → Int64)} {B7 : Nat} {p1 : Int32} {p2 : Int32} {res : Int32 × CS × Ob × Ob × Ob × FS × (Nat → Int64)} (hf : f_L_later v0 v0_friends v0_coming v0_dusk v0_dpicks v0_dkeeps v0_known v0_fam u3 B7 p1 p2 = some res) : CWi aK aV l yL_later cL_later 5 [((0 : Nat), (10 : Nat), (13 : Nat), (18 : Nat)), ((0 : Nat), (10 : Nat), (17 : Nat), (13 : Nat))] ({ frames := 8, cells := 8 * ((B7 - v0_fam.1)), slots := 96 * ((B7 - v0_fam.1)), locals := 176 } : Room) D dT [.ref (a0 0), .int p1, .int p2, .ref b3] ([wH dT a0 h_tape h_reader (a0_friends 0) (a0_dusk 0) (a0_fam 0 0) (a0_coming 0) h_acts h_seen h_pairs h_trials h_imageNow h_imageActs h_imageSeen v0, wF dT a0_friends v0_friends, wC dT a0_coming (a0_dusk 0) (a0_fam 0 0) (a0_known 0) (pim a0_fam v0_fam.2.1) v0_coming, wD dT a0_dusk (a0_dpicks 0) (a0_dkeeps 0) v0_dusk, wR dT a0_dpicks v0_dpicks, wR dT a0_dkeeps v0_dkeeps, wK dT a0_known v0_known, wRw dT v0_fam.1 a0_fam v0_fam.2.2, [(b3, .inl (dT 1, 1, .inr (.inl u3)))]]) (fun u : (Nat → Nat → Nat) => (∀ k, k < v0_fam.1 → u k = a0_fam k)) (fun u : (Nat → Nat → Nat) => [wH dT a0 h_tape h_reader (a0_friends 0) (a0_dusk 0) (u 0 0) (a0_coming 0) h_acts h_seen h_pairs h_trials h_imageNow h_imageActs h_imageSeen v0, wF dT a0_friends v0_friends, wC dT a0_coming (a0_dusk 0) (u 0 0) (a0_known 0) (pim u res.2.2.2.2.2.1.2.1) res.2.1, wD dT a0_dusk (a0_dpicks 0) (a0_dkeeps 0) res.2.2.1, wR dT a0_dpicks res.2.2.2.1, wR dT a0_dkeeps res.2.2.2.2.1, wK dT a0_known v0_known, wRw dT res.2.2.2.2.2.1.1 u res.2.2.2.2.2.1.2.2, [(b3, .inl (dT 1, 1, .inr (.inl res.2.2.2.2.2.2)))]]) res.1 (8 * ((B7 - v0_fam.1))) (96 * ((B7 - v0_fam.1))) := by
  refine CWi.of (by decide) (Nat.le_of_ble_eq_true rfl) rfl ?_
  intro p e s m args below meth c A C EX htab
  have E := EX.1
  unfold f_L_later at hf
  have hm7 : v0_fam.1 ≤ v0_fam.1 := Nat.le_refl _
  have hb7 : v0_fam.1 - v0_fam.1 ≤ B7 - v0_fam.1 := by omega
  have hg7 : ∀ k, k < v0_fam.1 → a0_fam k = a0_fam k := fun _ _ => rfl
  refine wa_widen (k := (8 * ((v0_fam.1 - v0_fam.1)))) (n := (96 * ((v0_fam.1 - v0_fam.1)))) (Nat.zero_le _) (Nat.zero_le _) ?_
  refine wa_aload_n C 3 1 dL_later_0 rfl rfl ?_
  refine wa_iconst (v := 0) C 2 dL_later_1 rfl rfl ?_
  refine wa_aload_n C 0 3 dL_later_2 rfl rfl ?_
  refine wa_iload_n C 1 4 dL_later_3 rfl rfl ?_
  refine wa_iload_n C 2 5 dL_later_4 rfl rfl ?_
  obtain ⟨q1, hq1, hf⟩ := bind_ex hf
  obtain ⟨g2, hf⟩ := grd_ex hf
  replace g2 := of_decide_eq_true g2
  refine wa_callMi (b1 := 0) (q1 := 0) (ci := 11) (As := [.int p1, .int p2]) C (fun (ru3 : (Nat → Nat → Nat)) => [wH dT a0 h_tape h_reader (a0_friends 0) (a0_dusk 0) (ru3 0 0) (a0_coming 0) h_acts h_seen h_pairs h_trials h_imageNow h_imageActs h_imageSeen v0, wF dT a0_friends v0_friends, wC dT a0_coming (a0_dusk 0) (ru3 0 0) (a0_known 0) (pim ru3 q1.2.2.2.2.2.2.1) q1.2.1, wD dT a0_dusk (a0_dpicks 0) (a0_dkeeps 0) q1.2.2.1, wR dT a0_dpicks q1.2.2.2.1, wR dT a0_dkeeps q1.2.2.2.2.1, wK dT a0_known v0_known, wRw dT q1.2.2.2.2.2.1 ru3 q1.2.2.2.2.2.2.2, [(b3, .inl (dT 1, 1, .inr (.inl u3)))]]) 8 dL_later_5 rfl kv_L_46 (c_X11_later hq1) ⟨rfl, rfl⟩ ⟨Nat.le_of_ble_eq_true rfl, Nat.le_of_ble_eq_true rfl⟩ rfl rfl rfl [0, 1, 2, 3, 4, 5, 6, 7] [8] [1, 2, 3, 4, 5, 6, 7, 8, 0] rfl rfl rfl rfl (by decide) rfl (fun _ => rfl) rfl rfl ⟨by show (8 * ((v0_fam.1 - v0_fam.1))) + 8 * ((B7 - v0_fam.1)) ≤ 8 * ((B7 - v0_fam.1)); omega, by show (96 * ((v0_fam.1 - v0_fam.1))) + 96 * ((B7 - v0_fam.1)) ≤ 96 * ((B7 - v0_fam.1)); omega⟩ (Nat.le_of_ble_eq_true rfl) (fun ru3 hu => ?_)
  refine wa_widen (k := (8 * ((B7 - v0_fam.1)))) (n := (96 * ((B7 - v0_fam.1)))) (by omega) (by omega) ?_
  replace hg7 : ∀ k, k < v0_fam.1 → ru3 k = a0_fam k := fun k hk => (hu k (by omega)).trans (hg7 k hk)
  replace hm7 : v0_fam.1 ≤ q1.2.2.2.2.2.1 := by omega
  replace hb7 : q1.2.2.2.2.2.1 - v0_fam.1 ≤ B7 - v0_fam.1 := by omega
  refine wa_i2l C 9 dL_later_8 rfl ?_
  obtain ⟨g4, hf⟩ := grd_ex hf
  obtain ⟨y5, ey5, hf⟩ := bnd_ex hf
  refine wa_last (ws' := [wH dT a0 h_tape h_reader (a0_friends 0) (a0_dusk 0) (ru3 0 0) (a0_coming 0) h_acts h_seen h_pairs h_trials h_imageNow h_imageActs h_imageSeen v0, wF dT a0_friends v0_friends, wC dT a0_coming (a0_dusk 0) (ru3 0 0) (a0_known 0) (pim ru3 q1.2.2.2.2.2.2.1) q1.2.1, wD dT a0_dusk (a0_dpicks 0) (a0_dkeeps 0) q1.2.2.1, wR dT a0_dpicks q1.2.2.2.1, wR dT a0_dkeeps q1.2.2.2.2.1, wK dT a0_known v0_known, wRw dT q1.2.2.2.2.2.1 ru3 q1.2.2.2.2.2.2.2, [(b3, .inl (dT 1, 1, .inr (.inl y5)))]]) C 10 8 0 dL_later_9 rfl rfl rfl (vi_in g4) (by rw [ey5]; rfl) ?_
  refine wa_goto C 21 dL_later_10 rfl ?_
  refine wa_iconst (v := 0) C 22 dL_later_21 rfl rfl ?_
  cases hf
  exact wa_irm C (ru3) dL_later_22 hg7 rfl rfl (by show (8 * ((B7 - v0_fam.1))) ≤ 8 * ((B7 - v0_fam.1)); omega) (by show (96 * ((B7 - v0_fam.1))) ≤ 96 * ((B7 - v0_fam.1)); omega)
theorem kv_L_49 : KV "NewHousesLaw" 49 yX11_meet cX11_meet 4 (some .int) 3 := KV.mk q1143 q1144 q1145 q1 q1146 ⟨by decide, by decide, by decide +kernel⟩
def f_L_meet (v0 : Ob) (v0_coming : CS) (v0_dusk : Ob) (v0_dpicks : Ob) (v0_dkeeps : Ob) (v0_known : Ob) (v0_fam : FS) (u4 : (Nat → Int64)) (B6 : Nat) (p1 : Int32) (p2 : Int32) (p3 : Int32) : Option (Int32 × CS × Ob × Ob × Ob × FS × (Nat → Int64)) := (f_X11_meet v0 v0_coming v0_dusk v0_dpicks v0_dkeeps v0_known v0_fam B6 p1 p2 p3).bind (fun q1 => grd (decide (v0_fam.1 ≤ q1.2.2.2.2.2.1 ∧ q1.2.2.2.2.2.1 ≤ B6)) (grd (vi (0 : Int32) 1) (bnd (vp_updL u4 ((0 : Int32)).toNatClampNeg q1.1.toInt64) (fun y5 => some ((0 : Int32), q1.2.1, q1.2.2.1, q1.2.2.2.1, q1.2.2.2.2.1, q1.2.2.2.2.2, y5)))))
set_option maxRecDepth 20000 in
theorem c_L_meet {l : Launch} {D : va_G} {dT : Nat → ClassId} {aK aV : Nat → Nat} {a0 : Nat → Nat} {a0_coming : Nat → Nat} {a0_dusk : Nat → Nat} {a0_dpicks : Nat → Nat} {a0_dkeeps : Nat → Nat} {a0_known : Nat → Nat} {a0_fam : Nat → Nat → Nat} {b4 : Nat} {h_tape : Nat} {h_reader : Nat} {h_friends : Nat} {h_acts : Nat} {h_seen : Nat} {h_pairs : Nat} {h_trials : Nat} {h_imageNow : Nat} {h_imageActs : Nat} {h_imageSeen : Nat} {v0 : Ob} {v0_coming : CS} {v0_dusk : Ob} {v0_dpicks : Ob} {v0_dkeeps : Ob} {v0_known : Ob} {v0_fam : FS} {u4 : (Nat → Int64)} {B6 : Nat} {p1 : Int32} {p2 : Int32} {p3 : Int32} {res : Int32 × CS × Ob × Ob × Ob × FS × (Nat → Int64)} (hf : f_L_meet v0 v0_coming v0_dusk v0_dpicks v0_dkeeps v0_known v0_fam u4 B6 p1 p2 p3 = some res) : CWi aK aV l yL_meet cL_meet 6 [((0 : Nat), (12 : Nat), (15 : Nat), (18 : Nat))] ({ frames := 9, cells := 8 * ((B6 - v0_fam.1)), slots := 96 * ((B6 - v0_fam.1)), locals := 200 } : Room) D dT [.ref (a0 0), .int p1, .int p2, .int p3, .ref b4] ([wH dT a0 h_tape h_reader h_friends (a0_dusk 0) (a0_fam 0 0) (a0_coming 0) h_acts h_seen h_pairs h_trials h_imageNow h_imageActs h_imageSeen v0, wC dT a0_coming (a0_dusk 0) (a0_fam 0 0) (a0_known 0) (pim a0_fam v0_fam.2.1) v0_coming, wD dT a0_dusk (a0_dpicks 0) (a0_dkeeps 0) v0_dusk, wR dT a0_dpicks v0_dpicks, wR dT a0_dkeeps v0_dkeeps, wK dT a0_known v0_known, wRw dT v0_fam.1 a0_fam v0_fam.2.2, [(b4, .inl (dT 1, 1, .inr (.inl u4)))]]) (fun u : (Nat → Nat → Nat) => (∀ k, k < v0_fam.1 → u k = a0_fam k)) (fun u : (Nat → Nat → Nat) => [wH dT a0 h_tape h_reader h_friends (a0_dusk 0) (u 0 0) (a0_coming 0) h_acts h_seen h_pairs h_trials h_imageNow h_imageActs h_imageSeen v0, wC dT a0_coming (a0_dusk 0) (u 0 0) (a0_known 0) (pim u res.2.2.2.2.2.1.2.1) res.2.1, wD dT a0_dusk (a0_dpicks 0) (a0_dkeeps 0) res.2.2.1, wR dT a0_dpicks res.2.2.2.1, wR dT a0_dkeeps res.2.2.2.2.1, wK dT a0_known v0_known, wRw dT res.2.2.2.2.2.1.1 u res.2.2.2.2.2.1.2.2, [(b4, .inl (dT 1, 1, .inr (.inl res.2.2.2.2.2.2)))]]) res.1 (8 * ((B6 - v0_fam.1))) (96 * ((B6 - v0_fam.1))) := by
  refine CWi.of (by decide) (Nat.le_of_ble_eq_true rfl) rfl ?_
  intro p e s m args below meth c A C EX htab
  have E := EX.1
  unfold f_L_meet at hf
  have hm6 : v0_fam.1 ≤ v0_fam.1 := Nat.le_refl _
  have hb6 : v0_fam.1 - v0_fam.1 ≤ B6 - v0_fam.1 := by omega
  have hg6 : ∀ k, k < v0_fam.1 → a0_fam k = a0_fam k := fun _ _ => rfl
  refine wa_widen (k := (8 * ((v0_fam.1 - v0_fam.1)))) (n := (96 * ((v0_fam.1 - v0_fam.1)))) (Nat.zero_le _) (Nat.zero_le _) ?_
  refine wa_aload C 4 2 dL_meet_0 rfl rfl ?_
  refine wa_iconst (v := 0) C 3 dL_meet_2 rfl rfl ?_
  refine wa_aload_n C 0 4 dL_meet_3 rfl rfl ?_
  refine wa_iload_n C 1 5 dL_meet_4 rfl rfl ?_
  refine wa_iload_n C 2 6 dL_meet_5 rfl rfl ?_
  refine wa_iload_n C 3 7 dL_meet_6 rfl rfl ?_
  obtain ⟨q1, hq1, hf⟩ := bind_ex hf
  obtain ⟨g2, hf⟩ := grd_ex hf
  replace g2 := of_decide_eq_true g2
  refine wa_callMi (b1 := 0) (q1 := 0) (ci := 11) (As := [.int p1, .int p2, .int p3]) C (fun (ru3 : (Nat → Nat → Nat)) => [wH dT a0 h_tape h_reader h_friends (a0_dusk 0) (ru3 0 0) (a0_coming 0) h_acts h_seen h_pairs h_trials h_imageNow h_imageActs h_imageSeen v0, wC dT a0_coming (a0_dusk 0) (ru3 0 0) (a0_known 0) (pim ru3 q1.2.2.2.2.2.2.1) q1.2.1, wD dT a0_dusk (a0_dpicks 0) (a0_dkeeps 0) q1.2.2.1, wR dT a0_dpicks q1.2.2.2.1, wR dT a0_dkeeps q1.2.2.2.2.1, wK dT a0_known v0_known, wRw dT q1.2.2.2.2.2.1 ru3 q1.2.2.2.2.2.2.2, [(b4, .inl (dT 1, 1, .inr (.inl u4)))]]) 10 dL_meet_7 rfl kv_L_49 (c_X11_meet hq1) ⟨rfl, rfl⟩ ⟨Nat.le_of_ble_eq_true rfl, Nat.le_of_ble_eq_true rfl⟩ rfl rfl rfl [0, 1, 2, 3, 4, 5, 6] [7] [1, 2, 3, 4, 5, 6, 7, 0] rfl rfl rfl rfl (by decide) rfl (fun _ => rfl) rfl rfl ⟨by show (8 * ((v0_fam.1 - v0_fam.1))) + 8 * ((B6 - v0_fam.1)) ≤ 8 * ((B6 - v0_fam.1)); omega, by show (96 * ((v0_fam.1 - v0_fam.1))) + 96 * ((B6 - v0_fam.1)) ≤ 96 * ((B6 - v0_fam.1)); omega⟩ (Nat.le_of_ble_eq_true rfl) (fun ru3 hu => ?_)
  refine wa_widen (k := (8 * ((B6 - v0_fam.1)))) (n := (96 * ((B6 - v0_fam.1)))) (by omega) (by omega) ?_
  replace hg6 : ∀ k, k < v0_fam.1 → ru3 k = a0_fam k := fun k hk => (hu k (by omega)).trans (hg6 k hk)
  replace hm6 : v0_fam.1 ≤ q1.2.2.2.2.2.1 := by omega
  replace hb6 : q1.2.2.2.2.2.1 - v0_fam.1 ≤ B6 - v0_fam.1 := by omega
  refine wa_i2l C 11 dL_meet_10 rfl ?_
  obtain ⟨g4, hf⟩ := grd_ex hf
  obtain ⟨y5, ey5, hf⟩ := bnd_ex hf
  refine wa_last (ws' := [wH dT a0 h_tape h_reader h_friends (a0_dusk 0) (ru3 0 0) (a0_coming 0) h_acts h_seen h_pairs h_trials h_imageNow h_imageActs h_imageSeen v0, wC dT a0_coming (a0_dusk 0) (ru3 0 0) (a0_known 0) (pim ru3 q1.2.2.2.2.2.2.1) q1.2.1, wD dT a0_dusk (a0_dpicks 0) (a0_dkeeps 0) q1.2.2.1, wR dT a0_dpicks q1.2.2.2.1, wR dT a0_dkeeps q1.2.2.2.2.1, wK dT a0_known v0_known, wRw dT q1.2.2.2.2.2.1 ru3 q1.2.2.2.2.2.2.2, [(b4, .inl (dT 1, 1, .inr (.inl y5)))]]) C 12 7 0 dL_meet_11 rfl rfl rfl (vi_in g4) (by rw [ey5]; rfl) ?_
  refine wa_goto C 19 dL_meet_12 rfl ?_
  refine wa_iconst (v := 0) C 20 dL_meet_19 rfl rfl ?_
  cases hf
  exact wa_irm C (ru3) dL_meet_20 hg6 rfl rfl (by show (8 * ((B6 - v0_fam.1))) ≤ 8 * ((B6 - v0_fam.1)); omega) (by show (96 * ((B6 - v0_fam.1))) ≤ 96 * ((B6 - v0_fam.1)); omega)
theorem kv_L_52 : KV "NewHousesLaw" 52 yX11_together cX11_together 6 (some .int) 3 := KV.mk q1155 q1156 q1157 q1 q1158 ⟨by decide, by decide, by decide +kernel⟩
def f_L_together (v0 : Ob) (v0_coming : CS) (v0_dusk : Ob) (v0_dpicks : Ob) (v0_dkeeps : Ob) (v0_known : Ob) (v0_fam : FS) (u4 : (Nat → Int64)) (B6 : Nat) (p1 : Int32) (p2 : Int32) (p3 : Int32) : Option (Int32 × CS × Ob × Ob × Ob × FS × (Nat → Int64)) := (f_X11_together v0 v0_coming v0_dusk v0_dpicks v0_dkeeps v0_known v0_fam B6 p1 p2 p3).bind (fun q1 => grd (decide (v0_fam.1 ≤ q1.2.2.2.2.2.1 ∧ q1.2.2.2.2.2.1 ≤ B6)) (grd (vi (0 : Int32) 1) (bnd (vp_updL u4 ((0 : Int32)).toNatClampNeg q1.1.toInt64) (fun y5 => some ((0 : Int32), q1.2.1, q1.2.2.1, q1.2.2.2.1, q1.2.2.2.2.1, q1.2.2.2.2.2, y5)))))
set_option maxRecDepth 20000 in
theorem c_L_together {l : Launch} {D : va_G} {dT : Nat → ClassId} {aK aV : Nat → Nat} {a0 : Nat → Nat} {a0_coming : Nat → Nat} {a0_dusk : Nat → Nat} {a0_dpicks : Nat → Nat} {a0_dkeeps : Nat → Nat} {a0_known : Nat → Nat} {a0_fam : Nat → Nat → Nat} {b4 : Nat} {h_tape : Nat} {h_reader : Nat} {h_friends : Nat} {h_acts : Nat} {h_seen : Nat} {h_pairs : Nat} {h_trials : Nat} {h_imageNow : Nat} {h_imageActs : Nat} {h_imageSeen : Nat} {v0 : Ob} {v0_coming : CS} {v0_dusk : Ob} {v0_dpicks : Ob} {v0_dkeeps : Ob} {v0_known : Ob} {v0_fam : FS} {u4 : (Nat → Int64)} {B6 : Nat} {p1 : Int32} {p2 : Int32} {p3 : Int32} {res : Int32 × CS × Ob × Ob × Ob × FS × (Nat → Int64)} (hf : f_L_together v0 v0_coming v0_dusk v0_dpicks v0_dkeeps v0_known v0_fam u4 B6 p1 p2 p3 = some res) : CWi aK aV l yL_together cL_together 6 [((0 : Nat), (12 : Nat), (15 : Nat), (18 : Nat)), ((0 : Nat), (12 : Nat), (19 : Nat), (13 : Nat))] ({ frames := 8, cells := 8 * ((B6 - v0_fam.1)), slots := 96 * ((B6 - v0_fam.1)), locals := 178 } : Room) D dT [.ref (a0 0), .int p1, .int p2, .int p3, .ref b4] ([wH dT a0 h_tape h_reader h_friends (a0_dusk 0) (a0_fam 0 0) (a0_coming 0) h_acts h_seen h_pairs h_trials h_imageNow h_imageActs h_imageSeen v0, wC dT a0_coming (a0_dusk 0) (a0_fam 0 0) (a0_known 0) (pim a0_fam v0_fam.2.1) v0_coming, wD dT a0_dusk (a0_dpicks 0) (a0_dkeeps 0) v0_dusk, wR dT a0_dpicks v0_dpicks, wR dT a0_dkeeps v0_dkeeps, wK dT a0_known v0_known, wRw dT v0_fam.1 a0_fam v0_fam.2.2, [(b4, .inl (dT 1, 1, .inr (.inl u4)))]]) (fun u : (Nat → Nat → Nat) => (∀ k, k < v0_fam.1 → u k = a0_fam k)) (fun u : (Nat → Nat → Nat) => [wH dT a0 h_tape h_reader h_friends (a0_dusk 0) (u 0 0) (a0_coming 0) h_acts h_seen h_pairs h_trials h_imageNow h_imageActs h_imageSeen v0, wC dT a0_coming (a0_dusk 0) (u 0 0) (a0_known 0) (pim u res.2.2.2.2.2.1.2.1) res.2.1, wD dT a0_dusk (a0_dpicks 0) (a0_dkeeps 0) res.2.2.1, wR dT a0_dpicks res.2.2.2.1, wR dT a0_dkeeps res.2.2.2.2.1, wK dT a0_known v0_known, wRw dT res.2.2.2.2.2.1.1 u res.2.2.2.2.2.1.2.2, [(b4, .inl (dT 1, 1, .inr (.inl res.2.2.2.2.2.2)))]]) res.1 (8 * ((B6 - v0_fam.1))) (96 * ((B6 - v0_fam.1))) := by
  refine CWi.of (by decide) (Nat.le_of_ble_eq_true rfl) rfl ?_
  intro p e s m args below meth c A C EX htab
  have E := EX.1
  unfold f_L_together at hf
  have hm6 : v0_fam.1 ≤ v0_fam.1 := Nat.le_refl _
  have hb6 : v0_fam.1 - v0_fam.1 ≤ B6 - v0_fam.1 := by omega
  have hg6 : ∀ k, k < v0_fam.1 → a0_fam k = a0_fam k := fun _ _ => rfl
  refine wa_widen (k := (8 * ((v0_fam.1 - v0_fam.1)))) (n := (96 * ((v0_fam.1 - v0_fam.1)))) (Nat.zero_le _) (Nat.zero_le _) ?_
  refine wa_aload C 4 2 dL_together_0 rfl rfl ?_
  refine wa_iconst (v := 0) C 3 dL_together_2 rfl rfl ?_
  refine wa_aload_n C 0 4 dL_together_3 rfl rfl ?_
  refine wa_iload_n C 1 5 dL_together_4 rfl rfl ?_
  refine wa_iload_n C 2 6 dL_together_5 rfl rfl ?_
  refine wa_iload_n C 3 7 dL_together_6 rfl rfl ?_
  obtain ⟨q1, hq1, hf⟩ := bind_ex hf
  obtain ⟨g2, hf⟩ := grd_ex hf
  replace g2 := of_decide_eq_true g2
  refine wa_callMi (b1 := 0) (q1 := 0) (ci := 11) (As := [.int p1, .int p2, .int p3]) C (fun (ru3 : (Nat → Nat → Nat)) => [wH dT a0 h_tape h_reader h_friends (a0_dusk 0) (ru3 0 0) (a0_coming 0) h_acts h_seen h_pairs h_trials h_imageNow h_imageActs h_imageSeen v0, wC dT a0_coming (a0_dusk 0) (ru3 0 0) (a0_known 0) (pim ru3 q1.2.2.2.2.2.2.1) q1.2.1, wD dT a0_dusk (a0_dpicks 0) (a0_dkeeps 0) q1.2.2.1, wR dT a0_dpicks q1.2.2.2.1, wR dT a0_dkeeps q1.2.2.2.2.1, wK dT a0_known v0_known, wRw dT q1.2.2.2.2.2.1 ru3 q1.2.2.2.2.2.2.2, [(b4, .inl (dT 1, 1, .inr (.inl u4)))]]) 10 dL_together_7 rfl kv_L_52 (c_X11_together hq1) ⟨rfl, rfl⟩ ⟨Nat.le_of_ble_eq_true rfl, Nat.le_of_ble_eq_true rfl⟩ rfl rfl rfl [0, 1, 2, 3, 4, 5, 6] [7] [1, 2, 3, 4, 5, 6, 7, 0] rfl rfl rfl rfl (by decide) rfl (fun _ => rfl) rfl rfl ⟨by show (8 * ((v0_fam.1 - v0_fam.1))) + 8 * ((B6 - v0_fam.1)) ≤ 8 * ((B6 - v0_fam.1)); omega, by show (96 * ((v0_fam.1 - v0_fam.1))) + 96 * ((B6 - v0_fam.1)) ≤ 96 * ((B6 - v0_fam.1)); omega⟩ (Nat.le_of_ble_eq_true rfl) (fun ru3 hu => ?_)
  refine wa_widen (k := (8 * ((B6 - v0_fam.1)))) (n := (96 * ((B6 - v0_fam.1)))) (by omega) (by omega) ?_
  replace hg6 : ∀ k, k < v0_fam.1 → ru3 k = a0_fam k := fun k hk => (hu k (by omega)).trans (hg6 k hk)
  replace hm6 : v0_fam.1 ≤ q1.2.2.2.2.2.1 := by omega
  replace hb6 : q1.2.2.2.2.2.1 - v0_fam.1 ≤ B6 - v0_fam.1 := by omega
  refine wa_i2l C 11 dL_together_10 rfl ?_
  obtain ⟨g4, hf⟩ := grd_ex hf
  obtain ⟨y5, ey5, hf⟩ := bnd_ex hf
  refine wa_last (ws' := [wH dT a0 h_tape h_reader h_friends (a0_dusk 0) (ru3 0 0) (a0_coming 0) h_acts h_seen h_pairs h_trials h_imageNow h_imageActs h_imageSeen v0, wC dT a0_coming (a0_dusk 0) (ru3 0 0) (a0_known 0) (pim ru3 q1.2.2.2.2.2.2.1) q1.2.1, wD dT a0_dusk (a0_dpicks 0) (a0_dkeeps 0) q1.2.2.1, wR dT a0_dpicks q1.2.2.2.1, wR dT a0_dkeeps q1.2.2.2.2.1, wK dT a0_known v0_known, wRw dT q1.2.2.2.2.2.1 ru3 q1.2.2.2.2.2.2.2, [(b4, .inl (dT 1, 1, .inr (.inl y5)))]]) C 12 7 0 dL_together_11 rfl rfl rfl (vi_in g4) (by rw [ey5]; rfl) ?_
  refine wa_goto C 23 dL_together_12 rfl ?_
  refine wa_iconst (v := 0) C 24 dL_together_23 rfl rfl ?_
  cases hf
  exact wa_irm C (ru3) dL_together_24 hg6 rfl rfl (by show (8 * ((B6 - v0_fam.1))) ≤ 8 * ((B6 - v0_fam.1)); omega) (by show (96 * ((B6 - v0_fam.1))) ≤ 96 * ((B6 - v0_fam.1)); omega)
theorem kv_L_55 : KV "NewHousesLaw" 55 yX11_goes cX11_goes 3 (some .int) 2 := KV.mk q1163 q1164 q1165 q1 q1166 ⟨by decide, by decide, by decide +kernel⟩
def f_L_goes (v0 : Ob) (v0_coming : CS) (v0_dusk : Ob) (v0_dpicks : Ob) (v0_dkeeps : Ob) (v0_known : Ob) (v0_fam : FS) (u3 : (Nat → Int64)) (B6 : Nat) (p1 : Int32) (p2 : Int32) : Option (Int32 × CS × Ob × Ob × Ob × FS × (Nat → Int64)) := (f_X11_goes v0 v0_coming v0_dusk v0_dpicks v0_dkeeps v0_known v0_fam B6 p1 p2).bind (fun q1 => grd (decide (v0_fam.1 ≤ q1.2.2.2.2.2.1 ∧ q1.2.2.2.2.2.1 ≤ B6)) (grd (vi (0 : Int32) 1) (bnd (vp_updL u3 ((0 : Int32)).toNatClampNeg q1.1.toInt64) (fun y5 => some ((0 : Int32), q1.2.1, q1.2.2.1, q1.2.2.2.1, q1.2.2.2.2.1, q1.2.2.2.2.2, y5)))))
set_option maxRecDepth 20000 in
theorem c_L_goes {l : Launch} {D : va_G} {dT : Nat → ClassId} {aK aV : Nat → Nat} {a0 : Nat → Nat} {a0_coming : Nat → Nat} {a0_dusk : Nat → Nat} {a0_dpicks : Nat → Nat} {a0_dkeeps : Nat → Nat} {a0_known : Nat → Nat} {a0_fam : Nat → Nat → Nat} {b3 : Nat} {h_tape : Nat} {h_reader : Nat} {h_friends : Nat} {h_acts : Nat} {h_seen : Nat} {h_pairs : Nat} {h_trials : Nat} {h_imageNow : Nat} {h_imageActs : Nat} {h_imageSeen : Nat} {v0 : Ob} {v0_coming : CS} {v0_dusk : Ob} {v0_dpicks : Ob} {v0_dkeeps : Ob} {v0_known : Ob} {v0_fam : FS} {u3 : (Nat → Int64)} {B6 : Nat} {p1 : Int32} {p2 : Int32} {res : Int32 × CS × Ob × Ob × Ob × FS × (Nat → Int64)} (hf : f_L_goes v0 v0_coming v0_dusk v0_dpicks v0_dkeeps v0_known v0_fam u3 B6 p1 p2 = some res) : CWi aK aV l yL_goes cL_goes 5 [((0 : Nat), (10 : Nat), (13 : Nat), (18 : Nat))] ({ frames := 9, cells := 8 * ((B6 - v0_fam.1)), slots := 96 * ((B6 - v0_fam.1)), locals := 199 } : Room) D dT [.ref (a0 0), .int p1, .int p2, .ref b3] ([wH dT a0 h_tape h_reader h_friends (a0_dusk 0) (a0_fam 0 0) (a0_coming 0) h_acts h_seen h_pairs h_trials h_imageNow h_imageActs h_imageSeen v0, wC dT a0_coming (a0_dusk 0) (a0_fam 0 0) (a0_known 0) (pim a0_fam v0_fam.2.1) v0_coming, wD dT a0_dusk (a0_dpicks 0) (a0_dkeeps 0) v0_dusk, wR dT a0_dpicks v0_dpicks, wR dT a0_dkeeps v0_dkeeps, wK dT a0_known v0_known, wRw dT v0_fam.1 a0_fam v0_fam.2.2, [(b3, .inl (dT 1, 1, .inr (.inl u3)))]]) (fun u : (Nat → Nat → Nat) => (∀ k, k < v0_fam.1 → u k = a0_fam k)) (fun u : (Nat → Nat → Nat) => [wH dT a0 h_tape h_reader h_friends (a0_dusk 0) (u 0 0) (a0_coming 0) h_acts h_seen h_pairs h_trials h_imageNow h_imageActs h_imageSeen v0, wC dT a0_coming (a0_dusk 0) (u 0 0) (a0_known 0) (pim u res.2.2.2.2.2.1.2.1) res.2.1, wD dT a0_dusk (a0_dpicks 0) (a0_dkeeps 0) res.2.2.1, wR dT a0_dpicks res.2.2.2.1, wR dT a0_dkeeps res.2.2.2.2.1, wK dT a0_known v0_known, wRw dT res.2.2.2.2.2.1.1 u res.2.2.2.2.2.1.2.2, [(b3, .inl (dT 1, 1, .inr (.inl res.2.2.2.2.2.2)))]]) res.1 (8 * ((B6 - v0_fam.1))) (96 * ((B6 - v0_fam.1))) := by
  refine CWi.of (by decide) (Nat.le_of_ble_eq_true rfl) rfl ?_
  intro p e s m args below meth c A C EX htab
  have E := EX.1
  unfold f_L_goes at hf
  have hm6 : v0_fam.1 ≤ v0_fam.1 := Nat.le_refl _
  have hb6 : v0_fam.1 - v0_fam.1 ≤ B6 - v0_fam.1 := by omega
  have hg6 : ∀ k, k < v0_fam.1 → a0_fam k = a0_fam k := fun _ _ => rfl
  refine wa_widen (k := (8 * ((v0_fam.1 - v0_fam.1)))) (n := (96 * ((v0_fam.1 - v0_fam.1)))) (Nat.zero_le _) (Nat.zero_le _) ?_
  refine wa_aload_n C 3 1 dL_goes_0 rfl rfl ?_
  refine wa_iconst (v := 0) C 2 dL_goes_1 rfl rfl ?_
  refine wa_aload_n C 0 3 dL_goes_2 rfl rfl ?_
  refine wa_iload_n C 1 4 dL_goes_3 rfl rfl ?_
  refine wa_iload_n C 2 5 dL_goes_4 rfl rfl ?_
  obtain ⟨q1, hq1, hf⟩ := bind_ex hf
  obtain ⟨g2, hf⟩ := grd_ex hf
  replace g2 := of_decide_eq_true g2
  refine wa_callMi (b1 := 0) (q1 := 0) (ci := 11) (As := [.int p1, .int p2]) C (fun (ru3 : (Nat → Nat → Nat)) => [wH dT a0 h_tape h_reader h_friends (a0_dusk 0) (ru3 0 0) (a0_coming 0) h_acts h_seen h_pairs h_trials h_imageNow h_imageActs h_imageSeen v0, wC dT a0_coming (a0_dusk 0) (ru3 0 0) (a0_known 0) (pim ru3 q1.2.2.2.2.2.2.1) q1.2.1, wD dT a0_dusk (a0_dpicks 0) (a0_dkeeps 0) q1.2.2.1, wR dT a0_dpicks q1.2.2.2.1, wR dT a0_dkeeps q1.2.2.2.2.1, wK dT a0_known v0_known, wRw dT q1.2.2.2.2.2.1 ru3 q1.2.2.2.2.2.2.2, [(b3, .inl (dT 1, 1, .inr (.inl u3)))]]) 8 dL_goes_5 rfl kv_L_55 (c_X11_goes hq1) ⟨rfl, rfl⟩ ⟨Nat.le_of_ble_eq_true rfl, Nat.le_of_ble_eq_true rfl⟩ rfl rfl rfl [0, 1, 2, 3, 4, 5, 6] [7] [1, 2, 3, 4, 5, 6, 7, 0] rfl rfl rfl rfl (by decide) rfl (fun _ => rfl) rfl rfl ⟨by show (8 * ((v0_fam.1 - v0_fam.1))) + 8 * ((B6 - v0_fam.1)) ≤ 8 * ((B6 - v0_fam.1)); omega, by show (96 * ((v0_fam.1 - v0_fam.1))) + 96 * ((B6 - v0_fam.1)) ≤ 96 * ((B6 - v0_fam.1)); omega⟩ (Nat.le_of_ble_eq_true rfl) (fun ru3 hu => ?_)
  refine wa_widen (k := (8 * ((B6 - v0_fam.1)))) (n := (96 * ((B6 - v0_fam.1)))) (by omega) (by omega) ?_
  replace hg6 : ∀ k, k < v0_fam.1 → ru3 k = a0_fam k := fun k hk => (hu k (by omega)).trans (hg6 k hk)
  replace hm6 : v0_fam.1 ≤ q1.2.2.2.2.2.1 := by omega
  replace hb6 : q1.2.2.2.2.2.1 - v0_fam.1 ≤ B6 - v0_fam.1 := by omega
  refine wa_i2l C 9 dL_goes_8 rfl ?_
  obtain ⟨g4, hf⟩ := grd_ex hf
  obtain ⟨y5, ey5, hf⟩ := bnd_ex hf
  refine wa_last (ws' := [wH dT a0 h_tape h_reader h_friends (a0_dusk 0) (ru3 0 0) (a0_coming 0) h_acts h_seen h_pairs h_trials h_imageNow h_imageActs h_imageSeen v0, wC dT a0_coming (a0_dusk 0) (ru3 0 0) (a0_known 0) (pim ru3 q1.2.2.2.2.2.2.1) q1.2.1, wD dT a0_dusk (a0_dpicks 0) (a0_dkeeps 0) q1.2.2.1, wR dT a0_dpicks q1.2.2.2.1, wR dT a0_dkeeps q1.2.2.2.2.1, wK dT a0_known v0_known, wRw dT q1.2.2.2.2.2.1 ru3 q1.2.2.2.2.2.2.2, [(b3, .inl (dT 1, 1, .inr (.inl y5)))]]) C 10 7 0 dL_goes_9 rfl rfl rfl (vi_in g4) (by rw [ey5]; rfl) ?_
  refine wa_goto C 17 dL_goes_10 rfl ?_
  refine wa_iconst (v := 0) C 18 dL_goes_17 rfl rfl ?_
  cases hf
  exact wa_irm C (ru3) dL_goes_18 hg6 rfl rfl (by show (8 * ((B6 - v0_fam.1))) ≤ 8 * ((B6 - v0_fam.1)); omega) (by show (96 * ((B6 - v0_fam.1))) ≤ 96 * ((B6 - v0_fam.1)); omega)
theorem kv_L_58 : KV "NewHousesLaw" 58 yX11_falls cX11_falls 2 (some .int) 1 := KV.mk q1179 q1180 q1181 q1 q1182 ⟨by decide, by decide, by decide +kernel⟩
def f_L_falls (v0 : Ob) (v0_coming : CS) (v0_dusk : Ob) (v0_dpicks : Ob) (v0_dkeeps : Ob) (v0_known : Ob) (v0_fam : FS) (u2 : (Nat → Int64)) (B6 : Nat) (p1 : Int32) : Option (Int32 × CS × Ob × Ob × Ob × FS × (Nat → Int64)) := (f_X11_falls v0 v0_coming v0_dusk v0_dpicks v0_dkeeps v0_known v0_fam B6 p1).bind (fun q1 => grd (decide (v0_fam.1 ≤ q1.2.2.2.2.2.1 ∧ q1.2.2.2.2.2.1 ≤ B6)) (grd (vi (0 : Int32) 1) (bnd (vp_updL u2 ((0 : Int32)).toNatClampNeg q1.1.toInt64) (fun y5 => some ((0 : Int32), q1.2.1, q1.2.2.1, q1.2.2.2.1, q1.2.2.2.2.1, q1.2.2.2.2.2, y5)))))
set_option maxRecDepth 20000 in
theorem c_L_falls {l : Launch} {D : va_G} {dT : Nat → ClassId} {aK aV : Nat → Nat} {a0 : Nat → Nat} {a0_coming : Nat → Nat} {a0_dusk : Nat → Nat} {a0_dpicks : Nat → Nat} {a0_dkeeps : Nat → Nat} {a0_known : Nat → Nat} {a0_fam : Nat → Nat → Nat} {b2 : Nat} {h_tape : Nat} {h_reader : Nat} {h_friends : Nat} {h_acts : Nat} {h_seen : Nat} {h_pairs : Nat} {h_trials : Nat} {h_imageNow : Nat} {h_imageActs : Nat} {h_imageSeen : Nat} {v0 : Ob} {v0_coming : CS} {v0_dusk : Ob} {v0_dpicks : Ob} {v0_dkeeps : Ob} {v0_known : Ob} {v0_fam : FS} {u2 : (Nat → Int64)} {B6 : Nat} {p1 : Int32} {res : Int32 × CS × Ob × Ob × Ob × FS × (Nat → Int64)} (hf : f_L_falls v0 v0_coming v0_dusk v0_dpicks v0_dkeeps v0_known v0_fam u2 B6 p1 = some res) : CWi aK aV l yL_falls cL_falls 4 [((0 : Nat), (9 : Nat), (12 : Nat), (18 : Nat))] ({ frames := 9, cells := 8 * ((B6 - v0_fam.1)), slots := 96 * ((B6 - v0_fam.1)), locals := 197 } : Room) D dT [.ref (a0 0), .int p1, .ref b2] ([wH dT a0 h_tape h_reader h_friends (a0_dusk 0) (a0_fam 0 0) (a0_coming 0) h_acts h_seen h_pairs h_trials h_imageNow h_imageActs h_imageSeen v0, wC dT a0_coming (a0_dusk 0) (a0_fam 0 0) (a0_known 0) (pim a0_fam v0_fam.2.1) v0_coming, wD dT a0_dusk (a0_dpicks 0) (a0_dkeeps 0) v0_dusk, wR dT a0_dpicks v0_dpicks, wR dT a0_dkeeps v0_dkeeps, wK dT a0_known v0_known, wRw dT v0_fam.1 a0_fam v0_fam.2.2, [(b2, .inl (dT 1, 1, .inr (.inl u2)))]]) (fun u : (Nat → Nat → Nat) => (∀ k, k < v0_fam.1 → u k = a0_fam k)) (fun u : (Nat → Nat → Nat) => [wH dT a0 h_tape h_reader h_friends (a0_dusk 0) (u 0 0) (a0_coming 0) h_acts h_seen h_pairs h_trials h_imageNow h_imageActs h_imageSeen v0, wC dT a0_coming (a0_dusk 0) (u 0 0) (a0_known 0) (pim u res.2.2.2.2.2.1.2.1) res.2.1, wD dT a0_dusk (a0_dpicks 0) (a0_dkeeps 0) res.2.2.1, wR dT a0_dpicks res.2.2.2.1, wR dT a0_dkeeps res.2.2.2.2.1, wK dT a0_known v0_known, wRw dT res.2.2.2.2.2.1.1 u res.2.2.2.2.2.1.2.2, [(b2, .inl (dT 1, 1, .inr (.inl res.2.2.2.2.2.2)))]]) res.1 (8 * ((B6 - v0_fam.1))) (96 * ((B6 - v0_fam.1))) := by
  refine CWi.of (by decide) (Nat.le_of_ble_eq_true rfl) rfl ?_
  intro p e s m args below meth c A C EX htab
  have E := EX.1
  unfold f_L_falls at hf
  have hm6 : v0_fam.1 ≤ v0_fam.1 := Nat.le_refl _
  have hb6 : v0_fam.1 - v0_fam.1 ≤ B6 - v0_fam.1 := by omega
  have hg6 : ∀ k, k < v0_fam.1 → a0_fam k = a0_fam k := fun _ _ => rfl
  refine wa_widen (k := (8 * ((v0_fam.1 - v0_fam.1)))) (n := (96 * ((v0_fam.1 - v0_fam.1)))) (Nat.zero_le _) (Nat.zero_le _) ?_
  refine wa_aload_n C 2 1 dL_falls_0 rfl rfl ?_
  refine wa_iconst (v := 0) C 2 dL_falls_1 rfl rfl ?_
  refine wa_aload_n C 0 3 dL_falls_2 rfl rfl ?_
  refine wa_iload_n C 1 4 dL_falls_3 rfl rfl ?_
  obtain ⟨q1, hq1, hf⟩ := bind_ex hf
  obtain ⟨g2, hf⟩ := grd_ex hf
  replace g2 := of_decide_eq_true g2
  refine wa_callMi (b1 := 0) (q1 := 0) (ci := 11) (As := [.int p1]) C (fun (ru3 : (Nat → Nat → Nat)) => [wH dT a0 h_tape h_reader h_friends (a0_dusk 0) (ru3 0 0) (a0_coming 0) h_acts h_seen h_pairs h_trials h_imageNow h_imageActs h_imageSeen v0, wC dT a0_coming (a0_dusk 0) (ru3 0 0) (a0_known 0) (pim ru3 q1.2.2.2.2.2.2.1) q1.2.1, wD dT a0_dusk (a0_dpicks 0) (a0_dkeeps 0) q1.2.2.1, wR dT a0_dpicks q1.2.2.2.1, wR dT a0_dkeeps q1.2.2.2.2.1, wK dT a0_known v0_known, wRw dT q1.2.2.2.2.2.1 ru3 q1.2.2.2.2.2.2.2, [(b2, .inl (dT 1, 1, .inr (.inl u2)))]]) 7 dL_falls_4 rfl kv_L_58 (c_X11_falls hq1) ⟨rfl, rfl⟩ ⟨Nat.le_of_ble_eq_true rfl, Nat.le_of_ble_eq_true rfl⟩ rfl rfl rfl [0, 1, 2, 3, 4, 5, 6] [7] [1, 2, 3, 4, 5, 6, 7, 0] rfl rfl rfl rfl (by decide) rfl (fun _ => rfl) rfl rfl ⟨by show (8 * ((v0_fam.1 - v0_fam.1))) + 8 * ((B6 - v0_fam.1)) ≤ 8 * ((B6 - v0_fam.1)); omega, by show (96 * ((v0_fam.1 - v0_fam.1))) + 96 * ((B6 - v0_fam.1)) ≤ 96 * ((B6 - v0_fam.1)); omega⟩ (Nat.le_of_ble_eq_true rfl) (fun ru3 hu => ?_)
  refine wa_widen (k := (8 * ((B6 - v0_fam.1)))) (n := (96 * ((B6 - v0_fam.1)))) (by omega) (by omega) ?_
  replace hg6 : ∀ k, k < v0_fam.1 → ru3 k = a0_fam k := fun k hk => (hu k (by omega)).trans (hg6 k hk)
  replace hm6 : v0_fam.1 ≤ q1.2.2.2.2.2.1 := by omega
  replace hb6 : q1.2.2.2.2.2.1 - v0_fam.1 ≤ B6 - v0_fam.1 := by omega
  refine wa_i2l C 8 dL_falls_7 rfl ?_
  obtain ⟨g4, hf⟩ := grd_ex hf
  obtain ⟨y5, ey5, hf⟩ := bnd_ex hf
  refine wa_last (ws' := [wH dT a0 h_tape h_reader h_friends (a0_dusk 0) (ru3 0 0) (a0_coming 0) h_acts h_seen h_pairs h_trials h_imageNow h_imageActs h_imageSeen v0, wC dT a0_coming (a0_dusk 0) (ru3 0 0) (a0_known 0) (pim ru3 q1.2.2.2.2.2.2.1) q1.2.1, wD dT a0_dusk (a0_dpicks 0) (a0_dkeeps 0) q1.2.2.1, wR dT a0_dpicks q1.2.2.2.1, wR dT a0_dkeeps q1.2.2.2.2.1, wK dT a0_known v0_known, wRw dT q1.2.2.2.2.2.1 ru3 q1.2.2.2.2.2.2.2, [(b2, .inl (dT 1, 1, .inr (.inl y5)))]]) C 9 7 0 dL_falls_8 rfl rfl rfl (vi_in g4) (by rw [ey5]; rfl) ?_
  refine wa_goto C 15 dL_falls_9 rfl ?_
  refine wa_iconst (v := 0) C 16 dL_falls_15 rfl rfl ?_
  cases hf
  exact wa_irm C (ru3) dL_falls_16 hg6 rfl rfl (by show (8 * ((B6 - v0_fam.1))) ≤ 8 * ((B6 - v0_fam.1)); omega) (by show (96 * ((B6 - v0_fam.1))) ≤ 96 * ((B6 - v0_fam.1)); omega)
theorem kv_L_61 : KV "NewHousesLaw" 61 yX11_who cX11_who 4 (some .int) 3 := KV.mk q1191 q1192 q1193 q1 q1194 ⟨by decide, by decide, by decide +kernel⟩
def f_L_who (v0 : Ob) (v0_coming : CS) (v0_dusk : Ob) (v0_dpicks : Ob) (v0_dkeeps : Ob) (v0_known : Ob) (v0_fam : FS) (u4 : (Nat → Int64)) (B6 : Nat) (p1 : Int32) (p2 : Int32) (p3 : Int32) : Option (Int32 × CS × Ob × Ob × Ob × FS × (Nat → Int64)) := (f_X11_who v0 v0_coming v0_dusk v0_dpicks v0_dkeeps v0_known v0_fam B6 p1 p2 p3).bind (fun q1 => grd (decide (v0_fam.1 ≤ q1.2.2.2.2.2.1 ∧ q1.2.2.2.2.2.1 ≤ B6)) (grd (vi (0 : Int32) 1) (bnd (vp_updL u4 ((0 : Int32)).toNatClampNeg q1.1.toInt64) (fun y5 => some ((0 : Int32), q1.2.1, q1.2.2.1, q1.2.2.2.1, q1.2.2.2.2.1, q1.2.2.2.2.2, y5)))))
set_option maxRecDepth 20000 in
theorem c_L_who {l : Launch} {D : va_G} {dT : Nat → ClassId} {aK aV : Nat → Nat} {a0 : Nat → Nat} {a0_coming : Nat → Nat} {a0_dusk : Nat → Nat} {a0_dpicks : Nat → Nat} {a0_dkeeps : Nat → Nat} {a0_known : Nat → Nat} {a0_fam : Nat → Nat → Nat} {b4 : Nat} {h_tape : Nat} {h_reader : Nat} {h_friends : Nat} {h_acts : Nat} {h_seen : Nat} {h_pairs : Nat} {h_trials : Nat} {h_imageNow : Nat} {h_imageActs : Nat} {h_imageSeen : Nat} {v0 : Ob} {v0_coming : CS} {v0_dusk : Ob} {v0_dpicks : Ob} {v0_dkeeps : Ob} {v0_known : Ob} {v0_fam : FS} {u4 : (Nat → Int64)} {B6 : Nat} {p1 : Int32} {p2 : Int32} {p3 : Int32} {res : Int32 × CS × Ob × Ob × Ob × FS × (Nat → Int64)} (hf : f_L_who v0 v0_coming v0_dusk v0_dpicks v0_dkeeps v0_known v0_fam u4 B6 p1 p2 p3 = some res) : CWi aK aV l yL_who cL_who 6 [((0 : Nat), (12 : Nat), (15 : Nat), (13 : Nat))] ({ frames := 8, cells := 8 * ((B6 - v0_fam.1)), slots := 96 * ((B6 - v0_fam.1)), locals := 176 } : Room) D dT [.ref (a0 0), .int p1, .int p2, .int p3, .ref b4] ([wH dT a0 h_tape h_reader h_friends (a0_dusk 0) (a0_fam 0 0) (a0_coming 0) h_acts h_seen h_pairs h_trials h_imageNow h_imageActs h_imageSeen v0, wC dT a0_coming (a0_dusk 0) (a0_fam 0 0) (a0_known 0) (pim a0_fam v0_fam.2.1) v0_coming, wD dT a0_dusk (a0_dpicks 0) (a0_dkeeps 0) v0_dusk, wR dT a0_dpicks v0_dpicks, wR dT a0_dkeeps v0_dkeeps, wK dT a0_known v0_known, wRw dT v0_fam.1 a0_fam v0_fam.2.2, [(b4, .inl (dT 1, 1, .inr (.inl u4)))]]) (fun u : (Nat → Nat → Nat) => (∀ k, k < v0_fam.1 → u k = a0_fam k)) (fun u : (Nat → Nat → Nat) => [wH dT a0 h_tape h_reader h_friends (a0_dusk 0) (u 0 0) (a0_coming 0) h_acts h_seen h_pairs h_trials h_imageNow h_imageActs h_imageSeen v0, wC dT a0_coming (a0_dusk 0) (u 0 0) (a0_known 0) (pim u res.2.2.2.2.2.1.2.1) res.2.1, wD dT a0_dusk (a0_dpicks 0) (a0_dkeeps 0) res.2.2.1, wR dT a0_dpicks res.2.2.2.1, wR dT a0_dkeeps res.2.2.2.2.1, wK dT a0_known v0_known, wRw dT res.2.2.2.2.2.1.1 u res.2.2.2.2.2.1.2.2, [(b4, .inl (dT 1, 1, .inr (.inl res.2.2.2.2.2.2)))]]) res.1 (8 * ((B6 - v0_fam.1))) (96 * ((B6 - v0_fam.1))) := by
  refine CWi.of (by decide) (Nat.le_of_ble_eq_true rfl) rfl ?_
  intro p e s m args below meth c A C EX htab
  have E := EX.1
  unfold f_L_who at hf
  have hm6 : v0_fam.1 ≤ v0_fam.1 := Nat.le_refl _
  have hb6 : v0_fam.1 - v0_fam.1 ≤ B6 - v0_fam.1 := by omega
  have hg6 : ∀ k, k < v0_fam.1 → a0_fam k = a0_fam k := fun _ _ => rfl
  refine wa_widen (k := (8 * ((v0_fam.1 - v0_fam.1)))) (n := (96 * ((v0_fam.1 - v0_fam.1)))) (Nat.zero_le _) (Nat.zero_le _) ?_
  refine wa_aload C 4 2 dL_who_0 rfl rfl ?_
  refine wa_iconst (v := 0) C 3 dL_who_2 rfl rfl ?_
  refine wa_aload_n C 0 4 dL_who_3 rfl rfl ?_
  refine wa_iload_n C 1 5 dL_who_4 rfl rfl ?_
  refine wa_iload_n C 2 6 dL_who_5 rfl rfl ?_
  refine wa_iload_n C 3 7 dL_who_6 rfl rfl ?_
  obtain ⟨q1, hq1, hf⟩ := bind_ex hf
  obtain ⟨g2, hf⟩ := grd_ex hf
  replace g2 := of_decide_eq_true g2
  refine wa_callMi (b1 := 0) (q1 := 0) (ci := 11) (As := [.int p1, .int p2, .int p3]) C (fun (ru3 : (Nat → Nat → Nat)) => [wH dT a0 h_tape h_reader h_friends (a0_dusk 0) (ru3 0 0) (a0_coming 0) h_acts h_seen h_pairs h_trials h_imageNow h_imageActs h_imageSeen v0, wC dT a0_coming (a0_dusk 0) (ru3 0 0) (a0_known 0) (pim ru3 q1.2.2.2.2.2.2.1) q1.2.1, wD dT a0_dusk (a0_dpicks 0) (a0_dkeeps 0) q1.2.2.1, wR dT a0_dpicks q1.2.2.2.1, wR dT a0_dkeeps q1.2.2.2.2.1, wK dT a0_known v0_known, wRw dT q1.2.2.2.2.2.1 ru3 q1.2.2.2.2.2.2.2, [(b4, .inl (dT 1, 1, .inr (.inl u4)))]]) 10 dL_who_7 rfl kv_L_61 (c_X11_who hq1) ⟨rfl, rfl⟩ ⟨Nat.le_of_ble_eq_true rfl, Nat.le_of_ble_eq_true rfl⟩ rfl rfl rfl [0, 1, 2, 3, 4, 5, 6] [7] [1, 2, 3, 4, 5, 6, 7, 0] rfl rfl rfl rfl (by decide) rfl (fun _ => rfl) rfl rfl ⟨by show (8 * ((v0_fam.1 - v0_fam.1))) + 8 * ((B6 - v0_fam.1)) ≤ 8 * ((B6 - v0_fam.1)); omega, by show (96 * ((v0_fam.1 - v0_fam.1))) + 96 * ((B6 - v0_fam.1)) ≤ 96 * ((B6 - v0_fam.1)); omega⟩ (Nat.le_of_ble_eq_true rfl) (fun ru3 hu => ?_)
  refine wa_widen (k := (8 * ((B6 - v0_fam.1)))) (n := (96 * ((B6 - v0_fam.1)))) (by omega) (by omega) ?_
  replace hg6 : ∀ k, k < v0_fam.1 → ru3 k = a0_fam k := fun k hk => (hu k (by omega)).trans (hg6 k hk)
  replace hm6 : v0_fam.1 ≤ q1.2.2.2.2.2.1 := by omega
  replace hb6 : q1.2.2.2.2.2.1 - v0_fam.1 ≤ B6 - v0_fam.1 := by omega
  refine wa_i2l C 11 dL_who_10 rfl ?_
  obtain ⟨g4, hf⟩ := grd_ex hf
  obtain ⟨y5, ey5, hf⟩ := bnd_ex hf
  refine wa_last (ws' := [wH dT a0 h_tape h_reader h_friends (a0_dusk 0) (ru3 0 0) (a0_coming 0) h_acts h_seen h_pairs h_trials h_imageNow h_imageActs h_imageSeen v0, wC dT a0_coming (a0_dusk 0) (ru3 0 0) (a0_known 0) (pim ru3 q1.2.2.2.2.2.2.1) q1.2.1, wD dT a0_dusk (a0_dpicks 0) (a0_dkeeps 0) q1.2.2.1, wR dT a0_dpicks q1.2.2.2.1, wR dT a0_dkeeps q1.2.2.2.2.1, wK dT a0_known v0_known, wRw dT q1.2.2.2.2.2.1 ru3 q1.2.2.2.2.2.2.2, [(b4, .inl (dT 1, 1, .inr (.inl y5)))]]) C 12 7 0 dL_who_11 rfl rfl rfl (vi_in g4) (by rw [ey5]; rfl) ?_
  refine wa_goto C 19 dL_who_12 rfl ?_
  refine wa_iconst (v := 0) C 20 dL_who_19 rfl rfl ?_
  cases hf
  exact wa_irm C (ru3) dL_who_20 hg6 rfl rfl (by show (8 * ((B6 - v0_fam.1))) ≤ 8 * ((B6 - v0_fam.1)); omega) (by show (96 * ((B6 - v0_fam.1))) ≤ 96 * ((B6 - v0_fam.1)); omega)
